theorem musOf_bad {g : LG} {m : Nat} {q : Int32} (h : inB q 0 6 = false) : aMusicianN g m q = -1012 := by
  have e : ∀ k : Int32, inB k 0 6 = true → ¬ q = k := fun k hk z => by rw [z, hk] at h; cases h
  unfold aMusicianN
  rw [if_neg (e 0 (by decide)), if_neg (e 1 (by decide)), if_neg (e 2 (by decide)), if_neg (e 3 (by decide)), if_neg (e 4 (by decide)), if_neg (e 5 (by decide)), if_neg (e 6 (by decide))]
theorem musOf_no {g : LG} {m : Nat} (h : g 12 m < 0) : aMusicianN g m (nI 5) = -1015 := by
  show orN (g 12 m) = _
  unfold orN
  rw [if_pos h]
theorem musOf_eq {g : LG} {m j : Nat} (hj : j < 7) (h : j = 5 → 0 ≤ g 12 m) : aMusicianN g m (nI j) = g (7 + j) m := by
  rcases (show j = 0 ∨ j = 1 ∨ j = 2 ∨ j = 3 ∨ j = 4 ∨ j = 5 ∨ j = 6 by omega) with rfl | rfl | rfl | rfl | rfl | rfl | rfl
  · rfl
  · rfl
  · rfl
  · rfl
  · rfl
  · show orN (g 12 m) = _
    unfold orN
    rw [if_neg (i32_nlt.mpr (h rfl))]
  · rfl
theorem cnt_sum {p : Nat → Bool} {n : Nat} : sumI (fun k => if p k = true then 1 else 0) n = nI (cntB p n) := by
  induction n with
  | zero => rfl
  | succ n ih =>
    unfold sumI cntB
    rw [ih]
    cases p n with
    | true => exact nI_1 _
    | false => exact Int32.add_zero _
theorem taken_sits {g : LG} {nc nm n : Nat} (hI : Inv g nc nm n) : cntB (taken g) nc = cntB (sits g) nm := by
  have h10 := hI.c10
  have h20 := hI.m10
  have h1 := cntB_le (taken g) nc
  have h2 := cntB_le (sits g) nm
  have h := sum_pair hI (fun _ _ => 1)
  rw [cnt_sum, cnt_sum] at h
  exact nI_inj (by omega) (by omega) h
theorem reason_no {rs : Rs} {k : Nat} {d : Int32} (hk : k ≤ 2) (h : ¬ k < rs.length) (hl : rs.length < 2 ^ 31) : aReason rs (nI k) d = -1015 := by
  have e1 : inB (nI k) 0 2 = true := (by decide +kernel : ∀ k, k < 3 → inB (nI k) 0 2 = true) k (by omega)
  have e2 : inR (nI k) rs.length = false := by
    unfold inR
    rw [decide_eq_true (nI_le (show rs.length ≤ k by omega) (by omega))]
    simp
  unfold aReason
  rw [e1, e2]
  rfl
theorem reason_at {rs : Rs} {k : Nat} {d : Int32} (hk : k ≤ 2) (h : k < rs.length) (hl : rs.length < 2 ^ 31) : aReason rs (nI k) d = if d = 0 then (rs.getD k (0, 0)).1 else (rs.getD k (0, 0)).2 := by
  have e1 : inB (nI k) 0 2 = true := (by decide +kernel : ∀ k, k < 3 → inB (nI k) 0 2 = true) k (by omega)
  unfold aReason
  rw [e1, inR_nI h hl, nI_clamp (by omega)]
  rfl
/-! the reference's text and line -/
def TM (M : Mem) (t : List Int32) : Prop := M 32 0 15 = nI t.length ∧ t.length ≤ 60 ∧ ∀ i, i < t.length → M 32 5 i = t.getD i 0
def LM (M : Mem) (l : List Int32) : Prop := M 32 0 13 = nI l.length ∧ l.length ≤ 120 ∧ (∀ i, i < l.length → M 32 4 i = l.getD i 0) ∧ ∀ x, x ∈ l → ¬ x = -1
def tT (b r k : Nat) : Prop := b = 32 ∧ (r = 5 ∨ (r = 0 ∧ k = 15))
def tL (b r k : Nat) : Prop := b = 32 ∧ (r = 4 ∨ (r = 0 ∧ k = 13))
theorem TM.fq {P : Nat → Nat → Nat → Prop} {M M1 : Mem} {t : List Int32} (h : TM M t) (e : Fq P M M1) (d : ∀ b r k, tT b r k → ¬ P b r k) : TM M1 t := by
  obtain ⟨h1, h2, h3⟩ := h
  refine ⟨by rw [e 32 0 15 (d _ _ _ ⟨rfl, Or.inr ⟨rfl, rfl⟩⟩)]; exact h1, h2, fun i hi => ?_⟩
  rw [e 32 5 i (d _ _ _ ⟨rfl, Or.inl rfl⟩)]
  exact h3 i hi
theorem LM.fq {P : Nat → Nat → Nat → Prop} {M M1 : Mem} {t : List Int32} (h : LM M t) (e : Fq P M M1) (d : ∀ b r k, tL b r k → ¬ P b r k) : LM M1 t := by
  obtain ⟨h1, h2, h3, h4⟩ := h
  refine ⟨by rw [e 32 0 13 (d _ _ _ ⟨rfl, Or.inr ⟨rfl, rfl⟩⟩)]; exact h1, h2, fun i hi => ?_, h4⟩
  rw [e 32 4 i (d _ _ _ ⟨rfl, Or.inl rfl⟩)]
  exact h3 i hi
theorem push_get {t : List Int32} {v : Int32} {i : Nat} (hi : i < t.length + 1) : (t ++ [v]).getD i 0 = if i = t.length then v else t.getD i 0 := by
  by_cases e : i = t.length
  · subst e
    simp [List.getD]
  · rw [if_neg e]
    simp only [List.getD]
    rw [List.getElem?_append_left (by omega)]
theorem TM.push {M : Mem} {t : List Int32} {v : Int32} (h : TM M t) (hl : t.length < 60) : TM (up3 (up3 M 32 5 t.length v) 32 0 15 (nI (t.length + 1))) (t ++ [v]) := by
  refine ⟨by rw [up3_same, List.length_append]; rfl, by rw [List.length_append]; exact hl, fun i hi => ?_⟩
  rw [List.length_append, List.length_singleton] at hi
  rw [push_get hi, up3_ne (by omega)]
  by_cases e : i = t.length
  · subst e
    rw [up3_same, if_pos rfl]
  · rw [up3_ne (by omega), if_neg e]
    exact h.2.2 i (by omega)
theorem LM.push {M : Mem} {t : List Int32} {v : Int32} (h : LM M t) (hl : t.length < 120) (hv : ¬ v = -1) : LM (up3 (up3 M 32 4 t.length v) 32 0 13 (nI (t.length + 1))) (t ++ [v]) := by
  refine ⟨by rw [up3_same, List.length_append]; rfl, by rw [List.length_append]; exact hl, fun i hi => ?_, fun x hx => ?_⟩
  · rw [List.length_append, List.length_singleton] at hi
    rw [push_get hi, up3_ne (by omega)]
    by_cases e : i = t.length
    · subst e
      rw [up3_same, if_pos rfl]
    · rw [up3_ne (by omega), if_neg e]
      exact h.2.2.1 i (by omega)
  · rcases List.mem_append.mp hx with q | q
    · exact h.2.2.2 x q
    · rw [List.mem_singleton.mp q]; exact hv
theorem LM.clr {M : Mem} : LM (up3 M 32 0 13 0) [] := ⟨up3_same, Nat.zero_le _, fun i h => absurd h (Nat.not_lt_zero i), fun x h => absurd h List.not_mem_nil⟩
theorem char_at {l : List Int32} {k : Nat} (hk : k < l.length) (hl : l.length < 2 ^ 31) (h : ∀ x, x ∈ l → ¬ x = -1) : aChar l (nI k) = l.getD k 0 := by
  have e : atL l (nI k) = l.getD k 0 := by
    rw [atL_nI hl (by omega)]
    unfold chr
    rw [if_pos hk]
  unfold aChar
  rw [e, if_neg]
  simp only [List.getD]
  rw [List.getElem?_eq_getElem hk]
  exact h _ (List.getElem_mem hk)
theorem i2c_k : ∀ k, k < 200 → ((nI k).toUInt32 % 65536).toInt32 = nI k := by decide +kernel
theorem nar_k : ∀ k, k < 200 → vp_nar .char (nI k) = nI k := by decide +kernel
theorem acc_out {q : Int32} (h : q.toInt < (0 : Nat) ∨ ((0 : Nat) : Int) + (13 : Nat) < q.toInt) : ¬ inB q 6 11 = true := fun e => by
  obtain ⟨j, h6, h11, rfl⟩ := inB_rng (lo := 6) (hi := 11) e (by decide) (by decide)
  rw [nI_toInt (by omega)] at h
  omega
def rm_X11_lasts : Room := { frames := 2, cells := 0, slots := 0, locals := 45 }
theorem kv_X11_lasts : KV yX11_lasts RX11 cX11_lasts 6 (some .int) 1 := ⟨⟨gw_727, gw_728, gw_5, gw_729⟩, by decide +kernel⟩
set_option maxRecDepth 100000 in
set_option maxHeartbeats 4000000 in
theorem c_X11_lasts (E : ZE) (M : Mem) (g : LG) (hg : gF (M 20 0) = g) (nc nm n : Nat) (hI : Inv g nc nm n) (x : Int32) : Mt E yX11_lasts cX11_lasts 6 (some .int) rm_X11_lasts [.ref (za E 32 0), .int x] M (PI (aLasts g x) M) := by
  have hnc := hI.nc; have hnm := hI.nm; have hn := hI.c10; have hn2 := hI.m10
  refine z_met (own := RX11) (lv := [(0, .ref (za E 32 0)), (1, .int x)]) (by decide) rfl (Nat.le_of_ble_eq_true rfl) rfl (fun gg X Y => ?_)
  refine z_iload_n X (pc := 0) 1 dX11_lasts_0 rfl rfl ?_
  refine z_iconst X (pc := 1) (v := 1) dX11_lasts_1 (by decide) ?_
  refine z_iconst X (pc := 2) (v := 4) dX11_lasts_2 (by decide) ?_
  refine z_callS X (pc := 3) (rest := []) ks_X11_isBetween (c_X11_isBetween E M x 1 4) gw_240 (by decide) rfl rfl (Nat.le_of_ble_eq_true rfl) dX11_lasts_3 (zk_i ?_)
  refine z_bif_ne X (pc := 6) (tgt := 13) dX11_lasts_6 (by decide) (fun c6 => ?_) (fun c6 => ?_)
  · refine z_sipush X (pc := 13) (v := (-1015)) dX11_lasts_13 (by decide) ?_
    refine z_istore_n X (pc := 16) (lv1 := [(2, .int ((-1015))), (0, .ref (za E 32 0)), (1, .int x)]) dX11_lasts_16 rfl (by decide) rfl ?_
    refine z_iconst X (pc := 17) (v := 0) dX11_lasts_17 (by decide) ?_
    refine z_istore_n X (pc := 18) (lv1 := [(3, .int 0), (2, .int ((-1015))), (0, .ref (za E 32 0)), (1, .int x)]) dX11_lasts_18 rfl (by decide) rfl ?_
    refine z_sub (lv' := [(3, .int (nI 0)), (2, .int (lastsN g x 0)), (0, .ref (za E 32 0)), (1, .int x)]) [0, 1, 2, 3] rfl ?_
    refine z_loop (nc) 19 (σ := Unit) (fun i s => True) (fun i s => (M, [(3, .int (nI i)), (2, .int (lastsN g x i)), (0, .ref (za E 32 0)), (1, .int x)])) ?_ 0 () (Nat.zero_le _) trivial
    intro i s hi19 hJ19 ih19
    show Z gg E M [(3, .int (nI i)), (2, .int (lastsN g x i)), (0, .ref (za E 32 0)), (1, .int x)] 19 []
    refine z_iload_n X (pc := 19) 0 dX11_lasts_19 rfl rfl ?_
    refine z_aload_n X (pc := 20) 2 dX11_lasts_20 rfl rfl ?_
    refine z_get X (pc := 21) 0 zk_32_0 (zc_32_0 E _) rfl inlX11 (by decide) gw_138 rfl rfl dX11_lasts_21 ?_
    refine z_bipush X (pc := 24) (v := 7) dX11_lasts_24 (by decide) ?_
    refine z_iald X (pc := 26) (by decide) (show (7 : Int32) = nI 7 from rfl) (by decide) dX11_lasts_26 ?_
    refine z_top (y := (nI nc)) ((SF.bk (SF.rf hg) (by decide)).trans hnc) ?_
    refine z_nicmp_ge X (pc := 27) (a := i) (b := nc) (tgt := 91) dX11_lasts_27 (by decide) (by omega) (by omega) (fun c27 => ?_) (fun c27 => ?_)
    · refine z_iload_n X (pc := 91) 1 dX11_lasts_91 rfl rfl ?_
      exact z_pret X Y dX11_lasts_92 (by obtain rfl : nc = i := (by omega); simp [aLasts, hI.cNe, hI.mNe, c6, c27, (Nat.not_lt.mpr c27)]) rfl
    · refine z_aload_n X (pc := 30) 2 dX11_lasts_30 rfl rfl ?_
      refine z_iload_n X (pc := 31) 0 dX11_lasts_31 rfl rfl ?_
      refine z_iload_n X (pc := 32) 3 dX11_lasts_32 rfl rfl ?_
      refine z_callV X (pc := 33) (rest := []) kv_X11_wear (c_X11_wear E M g (And.left (SF.rf hg)) i (by omega) x ((hI.nor6 (show i < nc by omega)).le (by omega))) zk_32_0 (zc_32_0 E _) rfl rfl gw_716 (by decide) rfl rfl (Nat.le_of_ble_eq_true rfl) dX11_lasts_33 (zk_i ?_)
      refine z_istore X (pc := 36) (lv1 := [(4, .int (wearOf g i x)), (3, .int (nI i)), (2, .int (lastsN g x i)), (0, .ref (za E 32 0)), (1, .int x)]) dX11_lasts_36 (by decide) rfl ?_
      refine z_iload X (pc := 38) 0 dX11_lasts_38 rfl ?_
      refine z_if_ne X (pc := 40) (tgt := 47) dX11_lasts_40 (by decide) (fun c40 => ?_) (fun c40 => ?_)
      · refine z_aload_n X (pc := 47) 3 dX11_lasts_47 rfl rfl ?_
        refine z_iload_n X (pc := 48) 1 dX11_lasts_48 rfl rfl ?_
        refine z_iconst X (pc := 49) (v := 3) dX11_lasts_49 (by decide) ?_
        refine z_callV X (pc := 50) (rest := []) kv_X11_ofChair (c_X11_ofChair E M g (And.left (SF.rf hg)) i 3 (show i < 10 by omega) (by decide)) zk_32_0 (zc_32_0 E _) rfl rfl gw_323 (by decide) rfl rfl (Nat.le_of_ble_eq_true rfl) dX11_lasts_50 (zk_i ?_)
        refine z_iconst X (pc := 53) (v := 1) dX11_lasts_53 (by decide) ?_
        refine z_isub X (pc := 54) dX11_lasts_54 ?_
        refine z_iload X (pc := 55) 0 dX11_lasts_55 rfl ?_
        refine z_idiv X (pc := 57) dX11_lasts_57 c40 ?_
        refine z_istore X (pc := 58) (lv1 := [(5, .int (((g 3 i) - 1) / (wearOf g i x))), (4, .int (wearOf g i x)), (3, .int (nI i)), (2, .int (lastsN g x i)), (0, .ref (za E 32 0)), (1, .int x)]) dX11_lasts_58 (by decide) rfl ?_
        refine z_iload X (pc := 60) 1 dX11_lasts_60 rfl ?_
        refine z_if_le X (pc := 62) (tgt := 83) dX11_lasts_62 (by decide) (fun c62 => ?_) (fun c62 => ?_)
        · refine z_iload_n X (pc := 83) 3 dX11_lasts_83 rfl rfl ?_
          refine z_istore_n X (pc := 84) (lv1 := [(2, .int (lastsN g x i)), (5, .int (((g 3 i) - 1) / (wearOf g i x))), (4, .int (wearOf g i x)), (3, .int (nI i)), (0, .ref (za E 32 0)), (1, .int x)]) dX11_lasts_84 rfl (by decide) rfl ?_
          refine z_iinc X (pc := 85) (v := (nI (i + 1))) (lv1 := [(3, .int (nI (i + 1))), (2, .int (lastsN g x i)), (5, .int (((g 3 i) - 1) / (wearOf g i x))), (4, .int (wearOf g i x)), (0, .ref (za E 32 0)), (1, .int x)]) 3 dX11_lasts_85 rfl (nI_1 _) (by decide) rfl ?_
          refine z_goto X (pc := 88) (tgt := 19) dX11_lasts_88 (by decide) ?_
          refine z_sub (lv' := [(3, .int (nI (i + 1))), (2, .int (lastsN g x i)), (0, .ref (za E 32 0)), (1, .int x)]) [0, 1, 4, 5] rfl ?_
          refine z_eq (lv' := [(3, .int (nI (i + 1))), (2, .int (lastsN g x (i + 1))), (0, .ref (za E 32 0)), (1, .int x)]) (by simp [lastsN, c6, c27, (Nat.not_le.mp c27), c40, c62, (i32_nlt.mpr c62)]) rfl ?_
          exact ih19 () (by omega) trivial
        · refine z_iload_n X (pc := 65) 3 dX11_lasts_65 rfl rfl ?_
          refine z_sipush X (pc := 66) (v := (-1015)) dX11_lasts_66 (by decide) ?_
          refine z_icmp_eq X (pc := 69) (tgt := 78) dX11_lasts_69 (by decide) (fun c69 => ?_) (fun c69 => ?_)
          · refine z_iload X (pc := 78) 0 dX11_lasts_78 rfl ?_
            refine z_goto X (pc := 80) (tgt := 84) dX11_lasts_80 (by decide) ?_
            refine z_istore_n X (pc := 84) (lv1 := [(2, .int (((g 3 i) - 1) / (wearOf g i x))), (5, .int (((g 3 i) - 1) / (wearOf g i x))), (4, .int (wearOf g i x)), (3, .int (nI i)), (0, .ref (za E 32 0)), (1, .int x)]) dX11_lasts_84 rfl (by decide) rfl ?_
            refine z_iinc X (pc := 85) (v := (nI (i + 1))) (lv1 := [(3, .int (nI (i + 1))), (2, .int (((g 3 i) - 1) / (wearOf g i x))), (5, .int (((g 3 i) - 1) / (wearOf g i x))), (4, .int (wearOf g i x)), (0, .ref (za E 32 0)), (1, .int x)]) 3 dX11_lasts_85 rfl (nI_1 _) (by decide) rfl ?_
            refine z_goto X (pc := 88) (tgt := 19) dX11_lasts_88 (by decide) ?_
            refine z_sub (lv' := [(3, .int (nI (i + 1))), (2, .int (((g 3 i) - 1) / (wearOf g i x))), (0, .ref (za E 32 0)), (1, .int x)]) [0, 1, 4, 5] rfl ?_
            refine z_eq (lv' := [(3, .int (nI (i + 1))), (2, .int (lastsN g x (i + 1))), (0, .ref (za E 32 0)), (1, .int x)]) (by simp [lastsN, c6, c27, (Nat.not_le.mp c27), c40, c62, (i32_nle.mp c62), c69]) rfl ?_
            exact ih19 () (by omega) trivial
          · refine z_iload X (pc := 72) 0 dX11_lasts_72 rfl ?_
            refine z_iload_n X (pc := 74) 3 dX11_lasts_74 rfl rfl ?_
            refine z_icmp_ge X (pc := 75) (tgt := 83) dX11_lasts_75 (by decide) (fun c75 => ?_) (fun c75 => ?_)
            · refine z_iload_n X (pc := 83) 3 dX11_lasts_83 rfl rfl ?_
              refine z_istore_n X (pc := 84) (lv1 := [(2, .int (lastsN g x i)), (5, .int (((g 3 i) - 1) / (wearOf g i x))), (4, .int (wearOf g i x)), (3, .int (nI i)), (0, .ref (za E 32 0)), (1, .int x)]) dX11_lasts_84 rfl (by decide) rfl ?_
              refine z_iinc X (pc := 85) (v := (nI (i + 1))) (lv1 := [(3, .int (nI (i + 1))), (2, .int (lastsN g x i)), (5, .int (((g 3 i) - 1) / (wearOf g i x))), (4, .int (wearOf g i x)), (0, .ref (za E 32 0)), (1, .int x)]) 3 dX11_lasts_85 rfl (nI_1 _) (by decide) rfl ?_
              refine z_goto X (pc := 88) (tgt := 19) dX11_lasts_88 (by decide) ?_
              refine z_sub (lv' := [(3, .int (nI (i + 1))), (2, .int (lastsN g x i)), (0, .ref (za E 32 0)), (1, .int x)]) [0, 1, 4, 5] rfl ?_
              refine z_eq (lv' := [(3, .int (nI (i + 1))), (2, .int (lastsN g x (i + 1))), (0, .ref (za E 32 0)), (1, .int x)]) (by simp [lastsN, c6, c27, (Nat.not_le.mp c27), c40, c62, (i32_nle.mp c62), c69, c75, (i32_nlt.mpr c75)]) rfl ?_
              exact ih19 () (by omega) trivial
            · refine z_iload X (pc := 78) 0 dX11_lasts_78 rfl ?_
              refine z_goto X (pc := 80) (tgt := 84) dX11_lasts_80 (by decide) ?_
              refine z_istore_n X (pc := 84) (lv1 := [(2, .int (((g 3 i) - 1) / (wearOf g i x))), (5, .int (((g 3 i) - 1) / (wearOf g i x))), (4, .int (wearOf g i x)), (3, .int (nI i)), (0, .ref (za E 32 0)), (1, .int x)]) dX11_lasts_84 rfl (by decide) rfl ?_
              refine z_iinc X (pc := 85) (v := (nI (i + 1))) (lv1 := [(3, .int (nI (i + 1))), (2, .int (((g 3 i) - 1) / (wearOf g i x))), (5, .int (((g 3 i) - 1) / (wearOf g i x))), (4, .int (wearOf g i x)), (0, .ref (za E 32 0)), (1, .int x)]) 3 dX11_lasts_85 rfl (nI_1 _) (by decide) rfl ?_
              refine z_goto X (pc := 88) (tgt := 19) dX11_lasts_88 (by decide) ?_
              refine z_sub (lv' := [(3, .int (nI (i + 1))), (2, .int (((g 3 i) - 1) / (wearOf g i x))), (0, .ref (za E 32 0)), (1, .int x)]) [0, 1, 4, 5] rfl ?_
              refine z_eq (lv' := [(3, .int (nI (i + 1))), (2, .int (lastsN g x (i + 1))), (0, .ref (za E 32 0)), (1, .int x)]) (by simp [lastsN, c6, c27, (Nat.not_le.mp c27), c40, c62, (i32_nle.mp c62), c69, c75, (i32_nle.mp c75)]) rfl ?_
              exact ih19 () (by omega) trivial
      · refine z_iconst X (pc := 43) (v := 0) dX11_lasts_43 (by decide) ?_
        refine z_goto X (pc := 44) (tgt := 58) dX11_lasts_44 (by decide) ?_
        refine z_istore X (pc := 58) (lv1 := [(5, .int 0), (4, .int (wearOf g i x)), (3, .int (nI i)), (2, .int (lastsN g x i)), (0, .ref (za E 32 0)), (1, .int x)]) dX11_lasts_58 (by decide) rfl ?_
        refine z_iload X (pc := 60) 1 dX11_lasts_60 rfl ?_
        refine z_if_le X (pc := 62) (tgt := 83) dX11_lasts_62 (by decide) (fun c62 => ?_) (fun c62 => ?_)
        · refine z_iload_n X (pc := 83) 3 dX11_lasts_83 rfl rfl ?_
          refine z_istore_n X (pc := 84) (lv1 := [(2, .int (lastsN g x i)), (5, .int 0), (4, .int (wearOf g i x)), (3, .int (nI i)), (0, .ref (za E 32 0)), (1, .int x)]) dX11_lasts_84 rfl (by decide) rfl ?_
          refine z_iinc X (pc := 85) (v := (nI (i + 1))) (lv1 := [(3, .int (nI (i + 1))), (2, .int (lastsN g x i)), (5, .int 0), (4, .int (wearOf g i x)), (0, .ref (za E 32 0)), (1, .int x)]) 3 dX11_lasts_85 rfl (nI_1 _) (by decide) rfl ?_
          refine z_goto X (pc := 88) (tgt := 19) dX11_lasts_88 (by decide) ?_
          refine z_sub (lv' := [(3, .int (nI (i + 1))), (2, .int (lastsN g x i)), (0, .ref (za E 32 0)), (1, .int x)]) [0, 1, 4, 5] rfl ?_
          refine z_eq (lv' := [(3, .int (nI (i + 1))), (2, .int (lastsN g x (i + 1))), (0, .ref (za E 32 0)), (1, .int x)]) (by simp [lastsN, c6, c27, (Nat.not_le.mp c27), c40, c62, (i32_nlt.mpr c62)]) rfl ?_
          exact ih19 () (by omega) trivial
        · exact absurd (by rw [c40]; exact Int32.le_refl 0) c62
  · refine z_sipush X (pc := 9) (v := (-1012)) dX11_lasts_9 (by decide) ?_
    exact z_pret X Y dX11_lasts_12 (by simp [aLasts, hI.cNe, hI.mNe, c6]) rfl

def rm_X11_chairOf : Room := { frames := 2, cells := 0, slots := 0, locals := 43 }
theorem kv_X11_chairOf : KV yX11_chairOf RX11 cX11_chairOf 3 (some .int) 2 := ⟨⟨gw_316, gw_317, gw_5, gw_318⟩, by decide +kernel⟩
set_option maxRecDepth 100000 in
set_option maxHeartbeats 4000000 in
theorem c_X11_chairOf (E : ZE) (M : Mem) (g : LG) (hg : gF (M 20 0) = g) (nc nm n : Nat) (hI : Inv g nc nm n) (x q : Int32) : Mt E yX11_chairOf cX11_chairOf 3 (some .int) rm_X11_chairOf [.ref (za E 32 0), .int x, .int q] M (PI (aChairOf g x q) M) := by
  have hnc := hI.nc; have hnm := hI.nm; have hn := hI.c10; have hn2 := hI.m10
  refine z_met (own := RX11) (lv := [(0, .ref (za E 32 0)), (1, .int x), (2, .int q)]) (by decide) rfl (Nat.le_of_ble_eq_true rfl) rfl (fun gg X Y => ?_)
  refine z_aload_n X (pc := 0) 0 dX11_chairOf_0 rfl rfl ?_
  refine z_iload_n X (pc := 1) 1 dX11_chairOf_1 rfl rfl ?_
  refine z_callV X (pc := 2) (rest := []) kv_X11_isChair (c_X11_isChair E M g (And.left (SF.rf hg)) nc hnc (by omega) x) zk_32_0 (zc_32_0 E _) rfl rfl gw_319 (by decide) rfl rfl (Nat.le_of_ble_eq_true rfl) dX11_chairOf_2 (zk_i ?_)
  refine z_bif_ne X (pc := 5) (tgt := 12) dX11_chairOf_5 (by decide) (fun c5 => ?_) (fun c5 => ?_)
  · obtain ⟨c, hc, rfl⟩ := inR_of c5 (by omega)
    refine z_iload_n X (pc := 12) 2 dX11_chairOf_12 rfl rfl ?_
    by_cases hs : (q).toInt < 0 ∨ (7 : Int) < (q).toInt
    · have e0 : ¬ q = 0 := by intro h; rw [h] at hs; revert hs; decide
      have e1 : ¬ q = 1 := by intro h; rw [h] at hs; revert hs; decide
      have e2 : ¬ q = 2 := by intro h; rw [h] at hs; revert hs; decide
      have e3 : ¬ q = 3 := by intro h; rw [h] at hs; revert hs; decide
      have e4 : ¬ q = 4 := by intro h; rw [h] at hs; revert hs; decide
      have e5 : ¬ q = 5 := by intro h; rw [h] at hs; revert hs; decide
      have e6 : ¬ q = 6 := by intro h; rw [h] at hs; revert hs; decide
      have e7 : ¬ q = 7 := by intro h; rw [h] at hs; revert hs; decide
      refine z_tableOut X (pc := 13) (tgt := 104) dX11_chairOf_13 hs (by decide) ?_
      refine z_sipush X (pc := 104) (v := (-1012)) dX11_chairOf_104 (by decide) ?_
      exact z_pret X Y dX11_chairOf_107 (by rw [aChairOf_in hI hc]; simp [aChairN, orN, hI.cNe, hI.mNe, e0, e1, e2, e3, e4, e5, e6, e7]) rfl
    · obtain ⟨j, hj, hx⟩ := sw_in (x := q) 0 7 (by decide) (by simpa using hs)
      rcases (show j = 0 ∨ j = 1 ∨ j = 2 ∨ j = 3 ∨ j = 4 ∨ j = 5 ∨ j = 6 ∨ j = 7 by omega) with rfl | rfl | rfl | rfl | rfl | rfl | rfl | rfl
      · replace hx : q = 0 := hx
        refine z_top hx ?_
        refine z_tableIn X (pc := 13) (off := 47) (tgt := 60) dX11_chairOf_13 (by decide) (by decide) (by rfl) (by decide) ?_
        refine z_aload_n X (pc := 60) 0 dX11_chairOf_60 rfl rfl ?_
        refine z_iload_n X (pc := 61) 1 dX11_chairOf_61 rfl rfl ?_
        refine z_iload_n X (pc := 62) 2 dX11_chairOf_62 rfl rfl ?_
        refine z_top (y := 0) hx ?_
        refine z_callV X (pc := 63) (rest := []) kv_X11_ofChair (c_X11_ofChair E M g (And.left (SF.rf hg)) c 0 (show c < 10 by omega) (by decide)) zk_32_0 (zc_32_0 E _) rfl rfl gw_323 (by decide) rfl rfl (Nat.le_of_ble_eq_true rfl) dX11_chairOf_63 (zk_i ?_)
        exact z_pret X Y dX11_chairOf_66 (by rw [aChairOf_in hI hc]; simp [aChairN, orN, hI.cNe, hI.mNe, hx]) rfl
      · replace hx : q = 1 := hx
        refine z_top hx ?_
        refine z_tableIn X (pc := 13) (off := 47) (tgt := 60) dX11_chairOf_13 (by decide) (by decide) (by rfl) (by decide) ?_
        refine z_aload_n X (pc := 60) 0 dX11_chairOf_60 rfl rfl ?_
        refine z_iload_n X (pc := 61) 1 dX11_chairOf_61 rfl rfl ?_
        refine z_iload_n X (pc := 62) 2 dX11_chairOf_62 rfl rfl ?_
        refine z_top (y := 1) hx ?_
        refine z_callV X (pc := 63) (rest := []) kv_X11_ofChair (c_X11_ofChair E M g (And.left (SF.rf hg)) c 1 (show c < 10 by omega) (by decide)) zk_32_0 (zc_32_0 E _) rfl rfl gw_323 (by decide) rfl rfl (Nat.le_of_ble_eq_true rfl) dX11_chairOf_63 (zk_i ?_)
        exact z_pret X Y dX11_chairOf_66 (by rw [aChairOf_in hI hc]; simp [aChairN, orN, hI.cNe, hI.mNe, hx]) rfl
      · replace hx : q = 2 := hx
        refine z_top hx ?_
        refine z_tableIn X (pc := 13) (off := 47) (tgt := 60) dX11_chairOf_13 (by decide) (by decide) (by rfl) (by decide) ?_
        refine z_aload_n X (pc := 60) 0 dX11_chairOf_60 rfl rfl ?_
        refine z_iload_n X (pc := 61) 1 dX11_chairOf_61 rfl rfl ?_
        refine z_iload_n X (pc := 62) 2 dX11_chairOf_62 rfl rfl ?_
        refine z_top (y := 2) hx ?_
        refine z_callV X (pc := 63) (rest := []) kv_X11_ofChair (c_X11_ofChair E M g (And.left (SF.rf hg)) c 2 (show c < 10 by omega) (by decide)) zk_32_0 (zc_32_0 E _) rfl rfl gw_323 (by decide) rfl rfl (Nat.le_of_ble_eq_true rfl) dX11_chairOf_63 (zk_i ?_)
        exact z_pret X Y dX11_chairOf_66 (by rw [aChairOf_in hI hc]; simp [aChairN, orN, hI.cNe, hI.mNe, hx]) rfl
      · replace hx : q = 3 := hx
        refine z_top hx ?_
        refine z_tableIn X (pc := 13) (off := 47) (tgt := 60) dX11_chairOf_13 (by decide) (by decide) (by rfl) (by decide) ?_
        refine z_aload_n X (pc := 60) 0 dX11_chairOf_60 rfl rfl ?_
        refine z_iload_n X (pc := 61) 1 dX11_chairOf_61 rfl rfl ?_
        refine z_iload_n X (pc := 62) 2 dX11_chairOf_62 rfl rfl ?_
        refine z_top (y := 3) hx ?_
        refine z_callV X (pc := 63) (rest := []) kv_X11_ofChair (c_X11_ofChair E M g (And.left (SF.rf hg)) c 3 (show c < 10 by omega) (by decide)) zk_32_0 (zc_32_0 E _) rfl rfl gw_323 (by decide) rfl rfl (Nat.le_of_ble_eq_true rfl) dX11_chairOf_63 (zk_i ?_)
        exact z_pret X Y dX11_chairOf_66 (by rw [aChairOf_in hI hc]; simp [aChairN, orN, hI.cNe, hI.mNe, hx]) rfl
      · replace hx : q = 4 := hx
        refine z_top hx ?_
        refine z_tableIn X (pc := 13) (off := 47) (tgt := 60) dX11_chairOf_13 (by decide) (by decide) (by rfl) (by decide) ?_
        refine z_aload_n X (pc := 60) 0 dX11_chairOf_60 rfl rfl ?_
        refine z_iload_n X (pc := 61) 1 dX11_chairOf_61 rfl rfl ?_
        refine z_iload_n X (pc := 62) 2 dX11_chairOf_62 rfl rfl ?_
        refine z_top (y := 4) hx ?_
        refine z_callV X (pc := 63) (rest := []) kv_X11_ofChair (c_X11_ofChair E M g (And.left (SF.rf hg)) c 4 (show c < 10 by omega) (by decide)) zk_32_0 (zc_32_0 E _) rfl rfl gw_323 (by decide) rfl rfl (Nat.le_of_ble_eq_true rfl) dX11_chairOf_63 (zk_i ?_)
        exact z_pret X Y dX11_chairOf_66 (by rw [aChairOf_in hI hc]; simp [aChairN, orN, hI.cNe, hI.mNe, hx]) rfl
      · replace hx : q = 5 := hx
        refine z_top hx ?_
        refine z_tableIn X (pc := 13) (off := 54) (tgt := 67) dX11_chairOf_13 (by decide) (by decide) (by rfl) (by decide) ?_
        refine z_aload_n X (pc := 67) 0 dX11_chairOf_67 rfl rfl ?_
        refine z_iload_n X (pc := 68) 1 dX11_chairOf_68 rfl rfl ?_
        refine z_callV X (pc := 69) (rest := []) kv_X11_comfort (c_X11_comfort E M g (And.left (SF.rf hg)) c (show c < 10 by omega)) zk_32_0 (zc_32_0 E _) rfl rfl gw_327 (by decide) rfl rfl (Nat.le_of_ble_eq_true rfl) dX11_chairOf_69 (zk_i ?_)
        exact z_pret X Y dX11_chairOf_72 (by rw [aChairOf_in hI hc]; simp [aChairN, orN, hI.cNe, hI.mNe, hx]) rfl
      · replace hx : q = 6 := hx
        refine z_top hx ?_
        refine z_tableIn X (pc := 13) (off := 60) (tgt := 73) dX11_chairOf_13 (by decide) (by decide) (by rfl) (by decide) ?_
        refine z_aload_n X (pc := 73) 0 dX11_chairOf_73 rfl rfl ?_
        refine z_iload_n X (pc := 74) 1 dX11_chairOf_74 rfl rfl ?_
        refine z_iconst X (pc := 75) (v := 5) dX11_chairOf_75 (by decide) ?_
        refine z_callV X (pc := 76) (rest := []) kv_X11_ofChair (c_X11_ofChair E M g (And.left (SF.rf hg)) c 5 (show c < 10 by omega) (by decide)) zk_32_0 (zc_32_0 E _) rfl rfl gw_323 (by decide) rfl rfl (Nat.le_of_ble_eq_true rfl) dX11_chairOf_76 (zk_i ?_)
        exact z_pret X Y dX11_chairOf_79 (by rw [aChairOf_in hI hc]; simp [aChairN, orN, hI.cNe, hI.mNe, hx]) rfl
      · replace hx : q = 7 := hx
        refine z_top hx ?_
        refine z_tableIn X (pc := 13) (off := 67) (tgt := 80) dX11_chairOf_13 (by decide) (by decide) (by rfl) (by decide) ?_
        refine z_aload_n X (pc := 80) 0 dX11_chairOf_80 rfl rfl ?_
        refine z_iload_n X (pc := 81) 1 dX11_chairOf_81 rfl rfl ?_
        refine z_bipush X (pc := 82) (v := 6) dX11_chairOf_82 (by decide) ?_
        refine z_callV X (pc := 84) (rest := []) kv_X11_ofChair (c_X11_ofChair E M g (And.left (SF.rf hg)) c 6 (show c < 10 by omega) (by decide)) zk_32_0 (zc_32_0 E _) rfl rfl gw_323 (by decide) rfl rfl (Nat.le_of_ble_eq_true rfl) dX11_chairOf_84 (zk_i ?_)
        refine z_if_ge X (pc := 87) (tgt := 96) dX11_chairOf_87 (by decide) (fun c87 => ?_) (fun c87 => ?_)
        · refine z_aload_n X (pc := 96) 0 dX11_chairOf_96 rfl rfl ?_
          refine z_iload_n X (pc := 97) 1 dX11_chairOf_97 rfl rfl ?_
          refine z_bipush X (pc := 98) (v := 6) dX11_chairOf_98 (by decide) ?_
          refine z_callV X (pc := 100) (rest := []) kv_X11_ofChair (c_X11_ofChair E M g (And.left (SF.rf hg)) c 6 (show c < 10 by omega) (by decide)) zk_32_0 (zc_32_0 E _) rfl rfl gw_323 (by decide) rfl rfl (Nat.le_of_ble_eq_true rfl) dX11_chairOf_100 (zk_i ?_)
          exact z_pret X Y dX11_chairOf_103 (by rw [aChairOf_in hI hc]; simp [aChairN, orN, hI.cNe, hI.mNe, hx, c87, (i32_nlt.mpr c87)]) rfl
        · refine z_sipush X (pc := 90) (v := (-1015)) dX11_chairOf_90 (by decide) ?_
          refine z_goto X (pc := 93) (tgt := 103) dX11_chairOf_93 (by decide) ?_
          exact z_pret X Y dX11_chairOf_103 (by rw [aChairOf_in hI hc]; simp [aChairN, orN, hI.cNe, hI.mNe, hx, c87, (i32_nle.mp c87)]) rfl
  · refine z_sipush X (pc := 8) (v := (-1011)) dX11_chairOf_8 (by decide) ?_
    exact z_pret X Y dX11_chairOf_11 (by simp [aChairOf, hI.cNe, hI.mNe, c5]) rfl

def rm_X11_musicianOf : Room := { frames := 2, cells := 0, slots := 0, locals := 43 }
theorem kv_X11_musicianOf : KV yX11_musicianOf RX11 cX11_musicianOf 3 (some .int) 2 := ⟨⟨gw_347, gw_348, gw_5, gw_349⟩, by decide +kernel⟩
set_option maxRecDepth 100000 in
set_option maxHeartbeats 4000000 in
theorem c_X11_musicianOf (E : ZE) (M : Mem) (g : LG) (hg : gF (M 20 0) = g) (nc nm n : Nat) (hI : Inv g nc nm n) (x q : Int32) : Mt E yX11_musicianOf cX11_musicianOf 3 (some .int) rm_X11_musicianOf [.ref (za E 32 0), .int x, .int q] M (PI (aMusicianOf g x q) M) := by
  have hnc := hI.nc; have hnm := hI.nm; have hn := hI.c10; have hn2 := hI.m10
  refine z_met (own := RX11) (lv := [(0, .ref (za E 32 0)), (1, .int x), (2, .int q)]) (by decide) rfl (Nat.le_of_ble_eq_true rfl) rfl (fun gg X Y => ?_)
  refine z_aload_n X (pc := 0) 0 dX11_musicianOf_0 rfl rfl ?_
  refine z_iload_n X (pc := 1) 1 dX11_musicianOf_1 rfl rfl ?_
  refine z_callV X (pc := 2) (rest := []) kv_X11_isMusician (c_X11_isMusician E M g (And.left (SF.rf hg)) nm hnm (by omega) x) zk_32_0 (zc_32_0 E _) rfl rfl gw_350 (by decide) rfl rfl (Nat.le_of_ble_eq_true rfl) dX11_musicianOf_2 (zk_i ?_)
  refine z_bif_ne X (pc := 5) (tgt := 12) dX11_musicianOf_5 (by decide) (fun c5 => ?_) (fun c5 => ?_)
  · obtain ⟨m, hm, rfl⟩ := inR_of c5 (by omega)
    refine z_iload_n X (pc := 12) 2 dX11_musicianOf_12 rfl rfl ?_
    refine z_iconst X (pc := 13) (v := 0) dX11_musicianOf_13 (by decide) ?_
    refine z_bipush X (pc := 14) (v := 6) dX11_musicianOf_14 (by decide) ?_
    refine z_callS X (pc := 16) (rest := []) ks_X11_isBetween (c_X11_isBetween E M q 0 6) gw_240 (by decide) rfl rfl (Nat.le_of_ble_eq_true rfl) dX11_musicianOf_16 (zk_i ?_)
    refine z_bif_ne X (pc := 19) (tgt := 26) dX11_musicianOf_19 (by decide) (fun c19 => ?_) (fun c19 => ?_)
    · obtain ⟨j, -, hj, rfl⟩ := inB_rng (lo := 0) (hi := 6) c19 (by decide) (by decide)
      refine z_iload_n X (pc := 26) 2 dX11_musicianOf_26 rfl rfl ?_
      refine z_iconst X (pc := 27) (v := 5) dX11_musicianOf_27 (by decide) ?_
      refine z_nicmp_ne X (pc := 28) (a := j) (b := 5) (tgt := 46) dX11_musicianOf_28 (by decide) (by omega) (by omega) (fun c28 => ?_) (fun c28 => ?_)
      · refine z_aload_n X (pc := 46) 0 dX11_musicianOf_46 rfl rfl ?_
        refine z_iload_n X (pc := 47) 1 dX11_musicianOf_47 rfl rfl ?_
        refine z_iload_n X (pc := 48) 2 dX11_musicianOf_48 rfl rfl ?_
        refine z_callV X (pc := 49) (rest := []) kv_X11_of (c_X11_of E M g (And.left (SF.rf hg)) m j (by omega) (by omega)) zk_32_0 (zc_32_0 E _) rfl rfl gw_354 (by decide) rfl rfl (Nat.le_of_ble_eq_true rfl) dX11_musicianOf_49 (zk_i ?_)
        exact z_pret X Y dX11_musicianOf_52 (by rw [aMusicianOf_in hI hm]; exact (musOf_eq (by omega) (fun e => absurd e (by omega))).symm) rfl
      · refine z_aload_n X (pc := 31) 0 dX11_musicianOf_31 rfl rfl ?_
        refine z_iload_n X (pc := 32) 1 dX11_musicianOf_32 rfl rfl ?_
        refine z_iconst X (pc := 33) (v := 5) dX11_musicianOf_33 (by decide) ?_
        refine z_callV X (pc := 34) (rest := []) kv_X11_of (c_X11_of E M g (And.left (SF.rf hg)) m 5 (show m < 10 by omega) (by decide)) zk_32_0 (zc_32_0 E _) rfl rfl gw_354 (by decide) rfl rfl (Nat.le_of_ble_eq_true rfl) dX11_musicianOf_34 (zk_i ?_)
        refine z_if_ge X (pc := 37) (tgt := 46) dX11_musicianOf_37 (by decide) (fun c37 => ?_) (fun c37 => ?_)
        · refine z_aload_n X (pc := 46) 0 dX11_musicianOf_46 rfl rfl ?_
          refine z_iload_n X (pc := 47) 1 dX11_musicianOf_47 rfl rfl ?_
          refine z_iload_n X (pc := 48) 2 dX11_musicianOf_48 rfl rfl ?_
          refine z_callV X (pc := 49) (rest := []) kv_X11_of (c_X11_of E M g (And.left (SF.rf hg)) m j (by omega) (by omega)) zk_32_0 (zc_32_0 E _) rfl rfl gw_354 (by decide) rfl rfl (Nat.le_of_ble_eq_true rfl) dX11_musicianOf_49 (zk_i ?_)
          exact z_pret X Y dX11_musicianOf_52 (by rw [aMusicianOf_in hI hm]; exact (musOf_eq (by omega) (fun e => c37)).symm) rfl
        · refine z_sipush X (pc := 40) (v := (-1015)) dX11_musicianOf_40 (by decide) ?_
          refine z_goto X (pc := 43) (tgt := 52) dX11_musicianOf_43 (by decide) ?_
          exact z_pret X Y dX11_musicianOf_52 (by rw [aMusicianOf_in hI hm, show j = 5 by omega]; exact (musOf_no (i32_nle.mp c37)).symm) rfl
    · refine z_sipush X (pc := 22) (v := (-1012)) dX11_musicianOf_22 (by decide) ?_
      exact z_pret X Y dX11_musicianOf_25 (by rw [aMusicianOf_in hI hm]; exact (musOf_bad c19).symm) rfl
  · refine z_sipush X (pc := 8) (v := (-1011)) dX11_musicianOf_8 (by decide) ?_
    exact z_pret X Y dX11_musicianOf_11 (by simp [aMusicianOf, hI.cNe, hI.mNe, c5]) rfl

def rm_X11_fit : Room := { frames := 2, cells := 0, slots := 0, locals := 46 }
theorem kv_X11_fit : KV yX11_fit RX11 cX11_fit 3 (some .int) 2 := ⟨⟨gw_379, gw_380, gw_5, gw_381⟩, by decide +kernel⟩
set_option maxRecDepth 100000 in
set_option maxHeartbeats 4000000 in
theorem c_X11_fit (E : ZE) (M : Mem) (g : LG) (hg : gF (M 20 0) = g) (nc nm n : Nat) (hI : Inv g nc nm n) (x y : Int32) : Mt E yX11_fit cX11_fit 3 (some .int) rm_X11_fit [.ref (za E 32 0), .int x, .int y] M (PI (aFit g x y) M) := by
  have hnc := hI.nc; have hnm := hI.nm; have hn := hI.c10; have hn2 := hI.m10
  refine z_met (own := RX11) (lv := [(0, .ref (za E 32 0)), (1, .int x), (2, .int y)]) (by decide) rfl (Nat.le_of_ble_eq_true rfl) rfl (fun gg X Y => ?_)
  refine z_aload_n X (pc := 0) 0 dX11_fit_0 rfl rfl ?_
  refine z_iload_n X (pc := 1) 1 dX11_fit_1 rfl rfl ?_
  refine z_callV X (pc := 2) (rest := []) kv_X11_isChair (c_X11_isChair E M g (And.left (SF.rf hg)) nc hnc (by omega) x) zk_32_0 (zc_32_0 E _) rfl rfl gw_319 (by decide) rfl rfl (Nat.le_of_ble_eq_true rfl) dX11_fit_2 (zk_i ?_)
  refine z_bif_eq X (pc := 5) (tgt := 25) dX11_fit_5 (by decide) (fun c5 => ?_) (fun c5 => ?_)
  · refine z_sipush X (pc := 25) (v := (-1011)) dX11_fit_25 (by decide) ?_
    exact z_pret X Y dX11_fit_28 (by simp [aFit, hI.cNe, hI.mNe, c5]) rfl
  · refine z_aload_n X (pc := 8) 0 dX11_fit_8 rfl rfl ?_
    refine z_iload_n X (pc := 9) 2 dX11_fit_9 rfl rfl ?_
    refine z_callV X (pc := 10) (rest := []) kv_X11_isMusician (c_X11_isMusician E M g (And.left (SF.rf hg)) nm hnm (by omega) y) zk_32_0 (zc_32_0 E _) rfl rfl gw_350 (by decide) rfl rfl (Nat.le_of_ble_eq_true rfl) dX11_fit_10 (zk_i ?_)
    refine z_bif_eq X (pc := 13) (tgt := 25) dX11_fit_13 (by decide) (fun c13 => ?_) (fun c13 => ?_)
    · refine z_sipush X (pc := 25) (v := (-1011)) dX11_fit_25 (by decide) ?_
      exact z_pret X Y dX11_fit_28 (by simp [aFit, hI.cNe, hI.mNe, c5, c13]) rfl
    · obtain ⟨c, hc, rfl⟩ := inR_of c5 (by omega)
      obtain ⟨m, hm, rfl⟩ := inR_of c13 (by omega)
      refine z_aload_n X (pc := 16) 0 dX11_fit_16 rfl rfl ?_
      refine z_iload_n X (pc := 17) 1 dX11_fit_17 rfl rfl ?_
      refine z_iload_n X (pc := 18) 2 dX11_fit_18 rfl rfl ?_
      refine z_callV X (pc := 19) (rest := []) kv_X11_fitOf (c_X11_fitOf E M g (And.left (SF.rf hg)) c m (show c < 10 by omega) (show m < 10 by omega)) zk_32_0 (zc_32_0 E _) rfl rfl gw_382 (by decide) rfl rfl (Nat.le_of_ble_eq_true rfl) dX11_fit_19 (zk_i ?_)
      refine z_goto X (pc := 22) (tgt := 28) dX11_fit_22 (by decide) ?_
      exact z_pret X Y dX11_fit_28 (by rw [aFit_in hI hc hm]) rfl

def rm_X11_hall : Room := { frames := 1, cells := 0, slots := 0, locals := 22 }
theorem kv_X11_hall : KV yX11_hall RX11 cX11_hall 4 (some .int) 1 := ⟨⟨gw_760, gw_761, gw_5, gw_762⟩, by decide +kernel⟩
set_option maxRecDepth 100000 in
set_option maxHeartbeats 4000000 in
theorem c_X11_hall (E : ZE) (M : Mem) (g : LG) (hg : gF (M 20 0) = g) (nc nm n : Nat) (hI : Inv g nc nm n) (x : Int32) : Mt E yX11_hall cX11_hall 4 (some .int) rm_X11_hall [.ref (za E 32 0), .int x] M (PI (aHall g x) M) := by
  have hnc := hI.nc; have hnm := hI.nm; have hn := hI.c10; have hn2 := hI.m10
  refine z_met (own := RX11) (lv := [(0, .ref (za E 32 0)), (1, .int x)]) (by decide) rfl (Nat.le_of_ble_eq_true rfl) rfl (fun gg X Y => ?_)
  refine z_iload_n X (pc := 0) 1 dX11_hall_0 rfl rfl ?_
  refine z_iconst X (pc := 1) (v := 0) dX11_hall_1 (by decide) ?_
  refine z_iconst X (pc := 2) (v := 2) dX11_hall_2 (by decide) ?_
  refine z_callS X (pc := 3) (rest := []) ks_X11_isBetween (c_X11_isBetween E M x 0 2) gw_240 (by decide) rfl rfl (Nat.le_of_ble_eq_true rfl) dX11_hall_3 (zk_i ?_)
  refine z_bif_ne X (pc := 6) (tgt := 13) dX11_hall_6 (by decide) (fun c6 => ?_) (fun c6 => ?_)
  · refine z_iconst X (pc := 13) (v := 0) dX11_hall_13 (by decide) ?_
    refine z_istore_n X (pc := 14) (lv1 := [(2, .int 0), (0, .ref (za E 32 0)), (1, .int x)]) dX11_hall_14 rfl (by decide) rfl ?_
    refine z_iconst X (pc := 15) (v := 0) dX11_hall_15 (by decide) ?_
    refine z_istore_n X (pc := 16) (lv1 := [(3, .int 0), (2, .int 0), (0, .ref (za E 32 0)), (1, .int x)]) dX11_hall_16 rfl (by decide) rfl ?_
    refine z_sub (lv' := [(3, .int (nI 0)), (2, .int (hallN g x 0)), (0, .ref (za E 32 0)), (1, .int x)]) [0, 1, 2, 3] rfl ?_
    refine z_loop (nc) 17 (σ := Unit) (fun i s => True) (fun i s => (M, [(3, .int (nI i)), (2, .int (hallN g x i)), (0, .ref (za E 32 0)), (1, .int x)])) ?_ 0 () (Nat.zero_le _) trivial
    intro i s hi17 hJ17 ih17
    show Z gg E M [(3, .int (nI i)), (2, .int (hallN g x i)), (0, .ref (za E 32 0)), (1, .int x)] 17 []
    refine z_iload_n X (pc := 17) 0 dX11_hall_17 rfl rfl ?_
    refine z_aload_n X (pc := 18) 2 dX11_hall_18 rfl rfl ?_
    refine z_get X (pc := 19) 0 zk_32_0 (zc_32_0 E _) rfl inlX11 (by decide) gw_138 rfl rfl dX11_hall_19 ?_
    refine z_bipush X (pc := 22) (v := 7) dX11_hall_22 (by decide) ?_
    refine z_iald X (pc := 24) (by decide) (show (7 : Int32) = nI 7 from rfl) (by decide) dX11_hall_24 ?_
    refine z_top (y := (nI nc)) ((SF.bk (SF.rf hg) (by decide)).trans hnc) ?_
    refine z_nicmp_ge X (pc := 25) (a := i) (b := nc) (tgt := 54) dX11_hall_25 (by decide) (by omega) (by omega) (fun c25 => ?_) (fun c25 => ?_)
    · refine z_iload_n X (pc := 54) 1 dX11_hall_54 rfl rfl ?_
      exact z_pret X Y dX11_hall_55 (by obtain rfl : nc = i := (by omega); simp [aHall, hI.cNe, hI.mNe, c6, c25, (Nat.not_lt.mpr c25)]) rfl
    · refine z_iload_n X (pc := 28) 1 dX11_hall_28 rfl rfl ?_
      refine z_aload_n X (pc := 29) 2 dX11_hall_29 rfl rfl ?_
      refine z_iload_n X (pc := 30) 0 dX11_hall_30 rfl rfl ?_
      refine z_iconst X (pc := 31) (v := 4) dX11_hall_31 (by decide) ?_
      refine z_callV X (pc := 32) (rest := [.int (hallN g x i)]) kv_X11_ofChair (c_X11_ofChair E M g (And.left (SF.rf hg)) i 4 (show i < 10 by omega) (by decide)) zk_32_0 (zc_32_0 E _) rfl rfl gw_323 (by decide) rfl rfl (Nat.le_of_ble_eq_true rfl) dX11_hall_32 (zk_i ?_)
      refine z_iload_n X (pc := 35) 3 dX11_hall_35 rfl rfl ?_
      refine z_icmp_ne X (pc := 36) (tgt := 45) dX11_hall_36 (by decide) (fun c36 => ?_) (fun c36 => ?_)
      · refine z_iconst X (pc := 45) (v := 0) dX11_hall_45 (by decide) ?_
        refine z_ior X (pc := 46) dX11_hall_46 ?_
        refine z_istore_n X (pc := 47) (lv1 := [(2, .int ((hallN g x i) ||| 0)), (3, .int (nI i)), (0, .ref (za E 32 0)), (1, .int x)]) dX11_hall_47 rfl (by decide) rfl ?_
        refine z_iinc X (pc := 48) (v := (nI (i + 1))) (lv1 := [(3, .int (nI (i + 1))), (2, .int ((hallN g x i) ||| 0)), (0, .ref (za E 32 0)), (1, .int x)]) 1 dX11_hall_48 rfl (nI_1 _) (by decide) rfl ?_
        refine z_goto X (pc := 51) (tgt := 17) dX11_hall_51 (by decide) ?_
        refine z_sub (lv' := [(3, .int (nI (i + 1))), (2, .int ((hallN g x i) ||| 0)), (0, .ref (za E 32 0)), (1, .int x)]) [0, 1, 2, 3] rfl ?_
        refine z_eq (lv' := [(3, .int (nI (i + 1))), (2, .int (hallN g x (i + 1))), (0, .ref (za E 32 0)), (1, .int x)]) (by simp [hallN, c6, c25, c36]) rfl ?_
        exact ih17 () (by omega) trivial
      · refine z_iconst X (pc := 39) (v := 1) dX11_hall_39 (by decide) ?_
        refine z_iload_n X (pc := 40) 0 dX11_hall_40 rfl rfl ?_
        refine z_ishl X (pc := 41) dX11_hall_41 ?_
        refine z_goto X (pc := 42) (tgt := 46) dX11_hall_42 (by decide) ?_
        refine z_ior X (pc := 46) dX11_hall_46 ?_
        refine z_istore_n X (pc := 47) (lv1 := [(2, .int ((hallN g x i) ||| (1 <<< ((nI i) &&& 31)))), (3, .int (nI i)), (0, .ref (za E 32 0)), (1, .int x)]) dX11_hall_47 rfl (by decide) rfl ?_
        refine z_iinc X (pc := 48) (v := (nI (i + 1))) (lv1 := [(3, .int (nI (i + 1))), (2, .int ((hallN g x i) ||| (1 <<< ((nI i) &&& 31)))), (0, .ref (za E 32 0)), (1, .int x)]) 1 dX11_hall_48 rfl (nI_1 _) (by decide) rfl ?_
        refine z_goto X (pc := 51) (tgt := 17) dX11_hall_51 (by decide) ?_
        refine z_sub (lv' := [(3, .int (nI (i + 1))), (2, .int ((hallN g x i) ||| (1 <<< ((nI i) &&& 31)))), (0, .ref (za E 32 0)), (1, .int x)]) [0, 1, 2, 3] rfl ?_
        refine z_eq (lv' := [(3, .int (nI (i + 1))), (2, .int (hallN g x (i + 1))), (0, .ref (za E 32 0)), (1, .int x)]) (by simp [hallN, c6, c25, c36]) rfl ?_
        exact ih17 () (by omega) trivial
  · refine z_sipush X (pc := 9) (v := (-1012)) dX11_hall_9 (by decide) ?_
    exact z_pret X Y dX11_hall_12 (by simp [aHall, hI.cNe, hI.mNe, c6]) rfl

def rm_X11_isAhead : Room := { frames := 2, cells := 0, slots := 0, locals := 43 }
theorem kv_X11_isAhead : KV yX11_isAhead RX11 cX11_isAhead 5 (some .boolean) 2 := ⟨⟨gw_777, gw_778, gw_5, gw_779⟩, by decide +kernel⟩
set_option maxRecDepth 100000 in
set_option maxHeartbeats 4000000 in
theorem c_X11_isAhead (E : ZE) (M : Mem) (g : LG) (hg : gF (M 20 0) = g) (a b : Nat) (ha : a < 10) (hb : b < 10) : Mt E yX11_isAhead cX11_isAhead 5 (some .boolean) rm_X11_isAhead [.ref (za E 32 0), .int (nI a), .int (nI b)] M (PI (zb (cAhead g a b)) M) := by
  refine z_met (own := RX11) (lv := [(0, .ref (za E 32 0)), (1, .int (nI a)), (2, .int (nI b))]) (by decide) rfl (Nat.le_of_ble_eq_true rfl) rfl (fun gg X Y => ?_)
  refine z_aload_n X (pc := 0) 0 dX11_isAhead_0 rfl rfl ?_
  refine z_iload_n X (pc := 1) 1 dX11_isAhead_1 rfl rfl ?_
  refine z_iconst X (pc := 2) (v := 5) dX11_isAhead_2 (by decide) ?_
  refine z_callV X (pc := 3) (rest := []) kv_X11_ofChair (c_X11_ofChair E M g (And.left (SF.rf hg)) a 5 (show a < 10 by omega) (by decide)) zk_32_0 (zc_32_0 E _) rfl rfl gw_323 (by decide) rfl rfl (Nat.le_of_ble_eq_true rfl) dX11_isAhead_3 (zk_i ?_)
  refine z_aload_n X (pc := 6) 0 dX11_isAhead_6 rfl rfl ?_
  refine z_iload_n X (pc := 7) 2 dX11_isAhead_7 rfl rfl ?_
  refine z_iconst X (pc := 8) (v := 5) dX11_isAhead_8 (by decide) ?_
  refine z_callV X (pc := 9) (rest := [.int (g 5 a)]) kv_X11_ofChair (c_X11_ofChair E M g (And.left (SF.rf hg)) b 5 (show b < 10 by omega) (by decide)) zk_32_0 (zc_32_0 E _) rfl rfl gw_323 (by decide) rfl rfl (Nat.le_of_ble_eq_true rfl) dX11_isAhead_9 (zk_i ?_)
  refine z_isub X (pc := 12) dX11_isAhead_12 ?_
  refine z_istore_n X (pc := 13) (lv1 := [(3, .int ((g 5 a) - (g 5 b))), (0, .ref (za E 32 0)), (1, .int (nI a)), (2, .int (nI b))]) dX11_isAhead_13 rfl (by decide) rfl ?_
  refine z_aload_n X (pc := 14) 1 dX11_isAhead_14 rfl rfl ?_
  refine z_iload_n X (pc := 15) 2 dX11_isAhead_15 rfl rfl ?_
  refine z_callV X (pc := 16) (rest := []) kv_X11_comfort (c_X11_comfort E M g (And.left (SF.rf hg)) a (show a < 10 by omega)) zk_32_0 (zc_32_0 E _) rfl rfl gw_327 (by decide) rfl rfl (Nat.le_of_ble_eq_true rfl) dX11_isAhead_16 (zk_i ?_)
  refine z_aload_n X (pc := 19) 1 dX11_isAhead_19 rfl rfl ?_
  refine z_iload_n X (pc := 20) 3 dX11_isAhead_20 rfl rfl ?_
  refine z_callV X (pc := 21) (rest := [.int (comf g a)]) kv_X11_comfort (c_X11_comfort E M g (And.left (SF.rf hg)) b (show b < 10 by omega)) zk_32_0 (zc_32_0 E _) rfl rfl gw_327 (by decide) rfl rfl (Nat.le_of_ble_eq_true rfl) dX11_isAhead_21 (zk_i ?_)
  refine z_isub X (pc := 24) dX11_isAhead_24 ?_
  refine z_istore X (pc := 25) (lv1 := [(4, .int ((comf g a) - (comf g b))), (3, .int ((g 5 a) - (g 5 b))), (0, .ref (za E 32 0)), (1, .int (nI a)), (2, .int (nI b))]) dX11_isAhead_25 (by decide) rfl ?_
  refine z_iload_n X (pc := 27) 1 dX11_isAhead_27 rfl rfl ?_
  refine z_if_eq X (pc := 28) (tgt := 43) dX11_isAhead_28 (by decide) (fun c28 => ?_) (fun c28 => ?_)
  · refine z_iload X (pc := 43) 0 dX11_isAhead_43 rfl ?_
    refine z_if_eq X (pc := 45) (tgt := 61) dX11_isAhead_45 (by decide) (fun c45 => ?_) (fun c45 => ?_)
    · refine z_iload_n X (pc := 61) 3 dX11_isAhead_61 rfl rfl ?_
      refine z_iload_n X (pc := 62) 4 dX11_isAhead_62 rfl rfl ?_
      refine z_nicmp_ge X (pc := 63) (a := a) (b := b) (tgt := 70) dX11_isAhead_63 (by decide) (by omega) (by omega) (fun c63 => ?_) (fun c63 => ?_)
      · refine z_iconst X (pc := 70) (v := 0) dX11_isAhead_70 (by decide) ?_
        exact z_bret X Y dX11_isAhead_71 (by simp [cAhead, rsat, zmore, zb, c28, c45, c63, (Nat.not_lt.mpr c63)]) rfl
      · refine z_iconst X (pc := 66) (v := 1) dX11_isAhead_66 (by decide) ?_
        refine z_goto X (pc := 67) (tgt := 71) dX11_isAhead_67 (by decide) ?_
        exact z_bret X Y dX11_isAhead_71 (by simp [cAhead, rsat, zmore, zb, c28, c45, c63, (Nat.not_le.mp c63)]) rfl
    · refine z_iload X (pc := 48) 0 dX11_isAhead_48 rfl ?_
      refine z_if_le X (pc := 50) (tgt := 57) dX11_isAhead_50 (by decide) (fun c50 => ?_) (fun c50 => ?_)
      · refine z_iconst X (pc := 57) (v := 0) dX11_isAhead_57 (by decide) ?_
        refine z_goto X (pc := 58) (tgt := 71) dX11_isAhead_58 (by decide) ?_
        exact z_bret X Y dX11_isAhead_71 (by simp [cAhead, rsat, zmore, zb, c28, c45, c50, (i32_nlt.mpr c50)]) rfl
      · refine z_iconst X (pc := 53) (v := 1) dX11_isAhead_53 (by decide) ?_
        refine z_goto X (pc := 54) (tgt := 71) dX11_isAhead_54 (by decide) ?_
        exact z_bret X Y dX11_isAhead_71 (by simp [cAhead, rsat, zmore, zb, c28, c45, c50, (i32_nle.mp c50)]) rfl
  · refine z_iload_n X (pc := 31) 1 dX11_isAhead_31 rfl rfl ?_
    refine z_if_le X (pc := 32) (tgt := 39) dX11_isAhead_32 (by decide) (fun c32 => ?_) (fun c32 => ?_)
    · refine z_iconst X (pc := 39) (v := 0) dX11_isAhead_39 (by decide) ?_
      refine z_goto X (pc := 40) (tgt := 71) dX11_isAhead_40 (by decide) ?_
      exact z_bret X Y dX11_isAhead_71 (by simp [cAhead, rsat, zmore, zb, c28, c32, (i32_nlt.mpr c32)]) rfl
    · refine z_iconst X (pc := 35) (v := 1) dX11_isAhead_35 (by decide) ?_
      refine z_goto X (pc := 36) (tgt := 71) dX11_isAhead_36 (by decide) ?_
      exact z_bret X Y dX11_isAhead_71 (by simp [cAhead, rsat, zmore, zb, c28, c32, (i32_nle.mp c32)]) rfl

def rm_X11_isRicher : Room := { frames := 1, cells := 0, slots := 0, locals := 22 }
theorem kv_X11_isRicher : KV yX11_isRicher RX11 cX11_isRicher 5 (some .boolean) 2 := ⟨⟨gw_793, gw_794, gw_5, gw_795⟩, by decide +kernel⟩
set_option maxRecDepth 100000 in
set_option maxHeartbeats 4000000 in
theorem c_X11_isRicher (E : ZE) (M : Mem) (g : LG) (hg : gF (M 20 0) = g) (a b : Nat) (ha : a < 10) (hb : b < 10) (h12a : nOr (g 12 a) 10) (h12b : nOr (g 12 b) 10) : Mt E yX11_isRicher cX11_isRicher 5 (some .boolean) rm_X11_isRicher [.ref (za E 32 0), .int (nI a), .int (nI b)] M (PI (zb (mAhead g a b)) M) := by
  refine z_met (own := RX11) (lv := [(0, .ref (za E 32 0)), (1, .int (nI a)), (2, .int (nI b))]) (by decide) rfl (Nat.le_of_ble_eq_true rfl) rfl (fun gg X Y => ?_)
  refine z_aload_n X (pc := 0) 0 dX11_isRicher_0 rfl rfl ?_
  refine z_iload_n X (pc := 1) 1 dX11_isRicher_1 rfl rfl ?_
  refine z_iconst X (pc := 2) (v := 3) dX11_isRicher_2 (by decide) ?_
  refine z_callV X (pc := 3) (rest := []) kv_X11_of (c_X11_of E M g (And.left (SF.rf hg)) a 3 (show a < 10 by omega) (by decide)) zk_32_0 (zc_32_0 E _) rfl rfl gw_354 (by decide) rfl rfl (Nat.le_of_ble_eq_true rfl) dX11_isRicher_3 (zk_i ?_)
  refine z_aload_n X (pc := 6) 0 dX11_isRicher_6 rfl rfl ?_
  refine z_iload_n X (pc := 7) 2 dX11_isRicher_7 rfl rfl ?_
  refine z_iconst X (pc := 8) (v := 3) dX11_isRicher_8 (by decide) ?_
  refine z_callV X (pc := 9) (rest := [.int (g 10 a)]) kv_X11_of (c_X11_of E M g (And.left (SF.rf hg)) b 3 (show b < 10 by omega) (by decide)) zk_32_0 (zc_32_0 E _) rfl rfl gw_354 (by decide) rfl rfl (Nat.le_of_ble_eq_true rfl) dX11_isRicher_9 (zk_i ?_)
  refine z_isub X (pc := 12) dX11_isRicher_12 ?_
  refine z_istore_n X (pc := 13) (lv1 := [(3, .int ((g 10 a) - (g 10 b))), (0, .ref (za E 32 0)), (1, .int (nI a)), (2, .int (nI b))]) dX11_isRicher_13 rfl (by decide) rfl ?_
  refine z_aload_n X (pc := 14) 1 dX11_isRicher_14 rfl rfl ?_
  refine z_iload_n X (pc := 15) 2 dX11_isRicher_15 rfl rfl ?_
  refine z_iconst X (pc := 16) (v := 5) dX11_isRicher_16 (by decide) ?_
  refine z_callV X (pc := 17) (rest := []) kv_X11_of (c_X11_of E M g (And.left (SF.rf hg)) a 5 (show a < 10 by omega) (by decide)) zk_32_0 (zc_32_0 E _) rfl rfl gw_354 (by decide) rfl rfl (Nat.le_of_ble_eq_true rfl) dX11_isRicher_17 (zk_i ?_)
  rcases (show nOr (g 12 a) 10 from h12a) with hp20 | ⟨k20, hk20, hp20⟩
  · refine z_top (y := ((-1))) hp20 ?_
    refine z_if_lt X (pc := 20) (tgt := 27) dX11_isRicher_20 (by decide) (fun c20 => ?_) (fun c20 => ?_)
    · refine z_iconst X (pc := 27) (v := 0) dX11_isRicher_27 (by decide) ?_
      refine z_istore X (pc := 28) (lv1 := [(4, .int 0), (3, .int ((g 10 a) - (g 10 b))), (0, .ref (za E 32 0)), (1, .int (nI a)), (2, .int (nI b))]) dX11_isRicher_28 (by decide) rfl ?_
      refine z_iload_n X (pc := 30) 1 dX11_isRicher_30 rfl rfl ?_
      refine z_if_eq X (pc := 31) (tgt := 46) dX11_isRicher_31 (by decide) (fun c31 => ?_) (fun c31 => ?_)
      · refine z_iload X (pc := 46) 0 dX11_isRicher_46 rfl ?_
        refine z_aload_n X (pc := 48) 2 dX11_isRicher_48 rfl rfl ?_
        refine z_iload_n X (pc := 49) 4 dX11_isRicher_49 rfl rfl ?_
        refine z_iconst X (pc := 50) (v := 5) dX11_isRicher_50 (by decide) ?_
        refine z_callV X (pc := 51) (rest := [.int 0]) kv_X11_of (c_X11_of E M g (And.left (SF.rf hg)) b 5 (show b < 10 by omega) (by decide)) zk_32_0 (zc_32_0 E _) rfl rfl gw_354 (by decide) rfl rfl (Nat.le_of_ble_eq_true rfl) dX11_isRicher_51 (zk_i ?_)
        rcases (show nOr (g 12 b) 10 from h12b) with hp54 | ⟨k54, hk54, hp54⟩
        · refine z_top (y := ((-1))) hp54 ?_
          refine z_if_lt X (pc := 54) (tgt := 61) dX11_isRicher_54 (by decide) (fun c54 => ?_) (fun c54 => ?_)
          · refine z_iconst X (pc := 61) (v := 0) dX11_isRicher_61 (by decide) ?_
            refine z_icmp_eq X (pc := 62) (tgt := 70) dX11_isRicher_62 (by decide) (fun c62 => ?_) (fun c62 => ?_)
            · refine z_iload_n X (pc := 70) 3 dX11_isRicher_70 rfl rfl ?_
              refine z_iload_n X (pc := 71) 4 dX11_isRicher_71 rfl rfl ?_
              refine z_nicmp_ge X (pc := 72) (a := a) (b := b) (tgt := 79) dX11_isRicher_72 (by decide) (by omega) (by omega) (fun c72 => ?_) (fun c72 => ?_)
              · refine z_iconst X (pc := 79) (v := 0) dX11_isRicher_79 (by decide) ?_
                exact z_bret X Y dX11_isRicher_80 (by simp [mAhead, sits, zb, hp20, c20, (i32_nle.mpr c20), c31, hp54, c54, (i32_nle.mpr c54), c62, c72, (Nat.not_lt.mpr c72)]) rfl
              · refine z_iconst X (pc := 75) (v := 1) dX11_isRicher_75 (by decide) ?_
                refine z_goto X (pc := 76) (tgt := 80) dX11_isRicher_76 (by decide) ?_
                exact z_bret X Y dX11_isRicher_80 (by simp [mAhead, sits, zb, hp20, c20, (i32_nle.mpr c20), c31, hp54, c54, (i32_nle.mpr c54), c62, c72, (Nat.not_le.mp c72)]) rfl
            · exact absurd (by decide) c62
          · exact absurd (by decide) c54
        · refine z_top (y := (nI k54)) hp54 ?_
          refine z_if_lt X (pc := 54) (tgt := 61) dX11_isRicher_54 (by decide) (fun c54 => ?_) (fun c54 => ?_)
          · exact absurd c54 (nI_pos (by omega))
          · refine z_iconst X (pc := 57) (v := 1) dX11_isRicher_57 (by decide) ?_
            refine z_goto X (pc := 58) (tgt := 62) dX11_isRicher_58 (by decide) ?_
            refine z_icmp_eq X (pc := 62) (tgt := 70) dX11_isRicher_62 (by decide) (fun c62 => ?_) (fun c62 => ?_)
            · exact absurd c62 (by decide)
            · refine z_iload X (pc := 65) 0 dX11_isRicher_65 rfl ?_
              refine z_goto X (pc := 67) (tgt := 80) dX11_isRicher_67 (by decide) ?_
              exact z_bret X Y dX11_isRicher_80 (by simp [mAhead, sits, zb, hp20, c20, (i32_nle.mpr c20), c31, hp54, nI_ne_m1 (show k54 < 2 ^ 31 by omega), nI_clamp (show k54 < 2 ^ 31 by omega), c54, c62]) rfl
      · refine z_iload_n X (pc := 34) 1 dX11_isRicher_34 rfl rfl ?_
        refine z_if_le X (pc := 35) (tgt := 42) dX11_isRicher_35 (by decide) (fun c35 => ?_) (fun c35 => ?_)
        · refine z_iconst X (pc := 42) (v := 0) dX11_isRicher_42 (by decide) ?_
          refine z_goto X (pc := 43) (tgt := 80) dX11_isRicher_43 (by decide) ?_
          exact z_bret X Y dX11_isRicher_80 (by simp [mAhead, sits, zb, hp20, c20, (i32_nle.mpr c20), c31, c35, (i32_nlt.mpr c35)]) rfl
        · refine z_iconst X (pc := 38) (v := 1) dX11_isRicher_38 (by decide) ?_
          refine z_goto X (pc := 39) (tgt := 80) dX11_isRicher_39 (by decide) ?_
          exact z_bret X Y dX11_isRicher_80 (by simp [mAhead, sits, zb, hp20, c20, (i32_nle.mpr c20), c31, c35, (i32_nle.mp c35)]) rfl
    · exact absurd (by decide) c20
  · refine z_top (y := (nI k20)) hp20 ?_
    refine z_if_lt X (pc := 20) (tgt := 27) dX11_isRicher_20 (by decide) (fun c20 => ?_) (fun c20 => ?_)
    · exact absurd c20 (nI_pos (by omega))
    · refine z_iconst X (pc := 23) (v := 1) dX11_isRicher_23 (by decide) ?_
      refine z_goto X (pc := 24) (tgt := 28) dX11_isRicher_24 (by decide) ?_
      refine z_istore X (pc := 28) (lv1 := [(4, .int 1), (3, .int ((g 10 a) - (g 10 b))), (0, .ref (za E 32 0)), (1, .int (nI a)), (2, .int (nI b))]) dX11_isRicher_28 (by decide) rfl ?_
      refine z_iload_n X (pc := 30) 1 dX11_isRicher_30 rfl rfl ?_
      refine z_if_eq X (pc := 31) (tgt := 46) dX11_isRicher_31 (by decide) (fun c31 => ?_) (fun c31 => ?_)
      · refine z_iload X (pc := 46) 0 dX11_isRicher_46 rfl ?_
        refine z_aload_n X (pc := 48) 2 dX11_isRicher_48 rfl rfl ?_
        refine z_iload_n X (pc := 49) 4 dX11_isRicher_49 rfl rfl ?_
        refine z_iconst X (pc := 50) (v := 5) dX11_isRicher_50 (by decide) ?_
        refine z_callV X (pc := 51) (rest := [.int 1]) kv_X11_of (c_X11_of E M g (And.left (SF.rf hg)) b 5 (show b < 10 by omega) (by decide)) zk_32_0 (zc_32_0 E _) rfl rfl gw_354 (by decide) rfl rfl (Nat.le_of_ble_eq_true rfl) dX11_isRicher_51 (zk_i ?_)
        rcases (show nOr (g 12 b) 10 from h12b) with hp54 | ⟨k54, hk54, hp54⟩
        · refine z_top (y := ((-1))) hp54 ?_
          refine z_if_lt X (pc := 54) (tgt := 61) dX11_isRicher_54 (by decide) (fun c54 => ?_) (fun c54 => ?_)
          · refine z_iconst X (pc := 61) (v := 0) dX11_isRicher_61 (by decide) ?_
            refine z_icmp_eq X (pc := 62) (tgt := 70) dX11_isRicher_62 (by decide) (fun c62 => ?_) (fun c62 => ?_)
            · exact absurd c62 (by decide)
            · refine z_iload X (pc := 65) 0 dX11_isRicher_65 rfl ?_
              refine z_goto X (pc := 67) (tgt := 80) dX11_isRicher_67 (by decide) ?_
              exact z_bret X Y dX11_isRicher_80 (by simp [mAhead, sits, zb, hp20, nI_ne_m1 (show k20 < 2 ^ 31 by omega), nI_clamp (show k20 < 2 ^ 31 by omega), c20, c31, hp54, c54, (i32_nle.mpr c54), c62]) rfl
          · exact absurd (by decide) c54
        · refine z_top (y := (nI k54)) hp54 ?_
          refine z_if_lt X (pc := 54) (tgt := 61) dX11_isRicher_54 (by decide) (fun c54 => ?_) (fun c54 => ?_)
          · exact absurd c54 (nI_pos (by omega))
          · refine z_iconst X (pc := 57) (v := 1) dX11_isRicher_57 (by decide) ?_
            refine z_goto X (pc := 58) (tgt := 62) dX11_isRicher_58 (by decide) ?_
            refine z_icmp_eq X (pc := 62) (tgt := 70) dX11_isRicher_62 (by decide) (fun c62 => ?_) (fun c62 => ?_)
            · refine z_iload_n X (pc := 70) 3 dX11_isRicher_70 rfl rfl ?_
              refine z_iload_n X (pc := 71) 4 dX11_isRicher_71 rfl rfl ?_
              refine z_nicmp_ge X (pc := 72) (a := a) (b := b) (tgt := 79) dX11_isRicher_72 (by decide) (by omega) (by omega) (fun c72 => ?_) (fun c72 => ?_)
              · refine z_iconst X (pc := 79) (v := 0) dX11_isRicher_79 (by decide) ?_
                exact z_bret X Y dX11_isRicher_80 (by simp [mAhead, sits, zb, hp20, nI_ne_m1 (show k20 < 2 ^ 31 by omega), nI_clamp (show k20 < 2 ^ 31 by omega), c20, c31, hp54, nI_ne_m1 (show k54 < 2 ^ 31 by omega), nI_clamp (show k54 < 2 ^ 31 by omega), c54, c62, c72, (Nat.not_lt.mpr c72)]) rfl
              · refine z_iconst X (pc := 75) (v := 1) dX11_isRicher_75 (by decide) ?_
                refine z_goto X (pc := 76) (tgt := 80) dX11_isRicher_76 (by decide) ?_
                exact z_bret X Y dX11_isRicher_80 (by simp [mAhead, sits, zb, hp20, nI_ne_m1 (show k20 < 2 ^ 31 by omega), nI_clamp (show k20 < 2 ^ 31 by omega), c20, c31, hp54, nI_ne_m1 (show k54 < 2 ^ 31 by omega), nI_clamp (show k54 < 2 ^ 31 by omega), c54, c62, c72, (Nat.not_le.mp c72)]) rfl
            · exact absurd (by decide) c62
      · refine z_iload_n X (pc := 34) 1 dX11_isRicher_34 rfl rfl ?_
        refine z_if_le X (pc := 35) (tgt := 42) dX11_isRicher_35 (by decide) (fun c35 => ?_) (fun c35 => ?_)
        · refine z_iconst X (pc := 42) (v := 0) dX11_isRicher_42 (by decide) ?_
          refine z_goto X (pc := 43) (tgt := 80) dX11_isRicher_43 (by decide) ?_
          exact z_bret X Y dX11_isRicher_80 (by simp [mAhead, sits, zb, hp20, nI_ne_m1 (show k20 < 2 ^ 31 by omega), nI_clamp (show k20 < 2 ^ 31 by omega), c20, c31, c35, (i32_nlt.mpr c35)]) rfl
        · refine z_iconst X (pc := 38) (v := 1) dX11_isRicher_38 (by decide) ?_
          refine z_goto X (pc := 39) (tgt := 80) dX11_isRicher_39 (by decide) ?_
          exact z_bret X Y dX11_isRicher_80 (by simp [mAhead, sits, zb, hp20, nI_ne_m1 (show k20 < 2 ^ 31 by omega), nI_clamp (show k20 < 2 ^ 31 by omega), c20, c31, c35, (i32_nle.mp c35)]) rfl

def rm_X11_ranked : Room := { frames := 3, cells := 0, slots := 0, locals := 67 }
theorem kv_X11_ranked : KV yX11_ranked RX11 cX11_ranked 5 (some .int) 1 := ⟨⟨gw_773, gw_774, gw_5, gw_775⟩, by decide +kernel⟩
set_option maxRecDepth 100000 in
set_option maxHeartbeats 4000000 in
theorem c_X11_ranked (E : ZE) (M : Mem) (g : LG) (hg : gF (M 20 0) = g) (nc nm n : Nat) (hI : Inv g nc nm n) (x : Int32) : Mt E yX11_ranked cX11_ranked 5 (some .int) rm_X11_ranked [.ref (za E 32 0), .int x] M (PI (firstB (fun c => decide (nI (cntB (fun o => cAhead g o c) nc) = x)) nc) M) := by
  have hnc := hI.nc; have hnm := hI.nm; have hn := hI.c10; have hn2 := hI.m10
  refine z_met (own := RX11) (lv := [(0, .ref (za E 32 0)), (1, .int x)]) (by decide) rfl (Nat.le_of_ble_eq_true rfl) rfl (fun gg X Y => ?_)
  refine z_iconst X (pc := 0) (v := 0) dX11_ranked_0 (by decide) ?_
  refine z_istore_n X (pc := 1) (lv1 := [(2, .int 0), (0, .ref (za E 32 0)), (1, .int x)]) dX11_ranked_1 rfl (by decide) rfl ?_
  refine z_sub (lv' := [(2, .int (nI 0)), (0, .ref (za E 32 0)), (1, .int x)]) [0, 1, 2] rfl ?_
  refine z_loop (nc) 2 (σ := Unit) (fun i s => ∀ c, c < i → (fun c => decide (nI (cntB (fun o => cAhead g o c) nc) = x)) c = false) (fun i s => (M, [(2, .int (nI i)), (0, .ref (za E 32 0)), (1, .int x)])) ?_ 0 () (Nat.zero_le _) (fun c hc => absurd hc (Nat.not_lt_zero c))
  intro i s hi2 hJ2 ih2
  show Z gg E M [(2, .int (nI i)), (0, .ref (za E 32 0)), (1, .int x)] 2 []
  refine z_iload_n X (pc := 2) 0 dX11_ranked_2 rfl rfl ?_
  refine z_aload_n X (pc := 3) 1 dX11_ranked_3 rfl rfl ?_
  refine z_get X (pc := 4) 0 zk_32_0 (zc_32_0 E _) rfl inlX11 (by decide) gw_138 rfl rfl dX11_ranked_4 ?_
  refine z_bipush X (pc := 7) (v := 7) dX11_ranked_7 (by decide) ?_
  refine z_iald X (pc := 9) (by decide) (show (7 : Int32) = nI 7 from rfl) (by decide) dX11_ranked_9 ?_
  refine z_top (y := (nI nc)) ((SF.bk (SF.rf hg) (by decide)).trans hnc) ?_
  refine z_nicmp_ge X (pc := 10) (a := i) (b := nc) (tgt := 67) dX11_ranked_10 (by decide) (by omega) (by omega) (fun c10 => ?_) (fun c10 => ?_)
  · refine z_sipush X (pc := 67) (v := (-1011)) dX11_ranked_67 (by decide) ?_
    exact z_pret X Y dX11_ranked_70 (firstB_no (n := nc) (fun c hc => hJ2 c (by omega))).symm rfl
  · refine z_iconst X (pc := 13) (v := 0) dX11_ranked_13 (by decide) ?_
    refine z_istore_n X (pc := 14) (lv1 := [(3, .int 0), (2, .int (nI i)), (0, .ref (za E 32 0)), (1, .int x)]) dX11_ranked_14 rfl (by decide) rfl ?_
    refine z_iconst X (pc := 15) (v := 0) dX11_ranked_15 (by decide) ?_
    refine z_istore X (pc := 16) (lv1 := [(4, .int 0), (3, .int 0), (2, .int (nI i)), (0, .ref (za E 32 0)), (1, .int x)]) dX11_ranked_16 (by decide) rfl ?_
    refine z_sub (lv' := [(4, .int (nI 0)), (3, .int (nI (cntB (fun o => cAhead g o i) 0))), (2, .int (nI i)), (0, .ref (za E 32 0)), (1, .int x)]) [0, 1, 2, 3, 4] rfl ?_
    refine z_loop (nc) 18 (σ := Unit) (fun j s => True) (fun j s => (M, [(4, .int (nI j)), (3, .int (nI (cntB (fun o => cAhead g o i) j))), (2, .int (nI i)), (0, .ref (za E 32 0)), (1, .int x)])) ?_ 0 () (Nat.zero_le _) trivial
    intro j s hi18 hJ18 ih18
    show Z gg E M [(4, .int (nI j)), (3, .int (nI (cntB (fun o => cAhead g o i) j))), (2, .int (nI i)), (0, .ref (za E 32 0)), (1, .int x)] 18 []
    refine z_iload X (pc := 18) 0 dX11_ranked_18 rfl ?_
    refine z_aload_n X (pc := 20) 3 dX11_ranked_20 rfl rfl ?_
    refine z_get X (pc := 21) 0 zk_32_0 (zc_32_0 E _) rfl inlX11 (by decide) gw_138 rfl rfl dX11_ranked_21 ?_
    refine z_bipush X (pc := 24) (v := 7) dX11_ranked_24 (by decide) ?_
    refine z_iald X (pc := 26) (by decide) (show (7 : Int32) = nI 7 from rfl) (by decide) dX11_ranked_26 ?_
    refine z_top (y := (nI nc)) ((SF.bk (SF.rf hg) (by decide)).trans hnc) ?_
    refine z_nicmp_ge X (pc := 27) (a := j) (b := nc) (tgt := 54) dX11_ranked_27 (by decide) (by omega) (by omega) (fun c27 => ?_) (fun c27 => ?_)
    · obtain rfl : nc = j := by omega
      refine z_iload_n X (pc := 54) 1 dX11_ranked_54 rfl rfl ?_
      refine z_iload_n X (pc := 55) 4 dX11_ranked_55 rfl rfl ?_
      refine z_icmp_ne X (pc := 56) (tgt := 61) dX11_ranked_56 (by decide) (fun c56 => ?_) (fun c56 => ?_)
      · refine z_iinc X (pc := 61) (v := (nI (i + 1))) (lv1 := [(2, .int (nI (i + 1))), (4, .int (nI nc)), (3, .int (nI (cntB (fun o => cAhead g o i) nc))), (0, .ref (za E 32 0)), (1, .int x)]) 2 dX11_ranked_61 rfl (nI_1 _) (by decide) rfl ?_
        refine z_goto X (pc := 64) (tgt := 2) dX11_ranked_64 (by decide) ?_
        refine z_sub (lv' := [(2, .int (nI (i + 1))), (0, .ref (za E 32 0)), (1, .int x)]) [0, 3, 4] rfl ?_
        exact ih2 () (by omega) (fun c hc => by rcases Nat.lt_or_ge c i with e | e; exact hJ2 c e; rw [show c = i by omega]; exact decide_eq_false c56)
      · refine z_iload_n X (pc := 59) 2 dX11_ranked_59 rfl rfl ?_
        exact z_pret X Y dX11_ranked_60 (firstB_at (n := nc) hJ2 (decide_eq_true c56) (by omega)).symm rfl
    · refine z_iload_n X (pc := 30) 1 dX11_ranked_30 rfl rfl ?_
      refine z_aload_n X (pc := 31) 3 dX11_ranked_31 rfl rfl ?_
      refine z_iload X (pc := 32) 0 dX11_ranked_32 rfl ?_
      refine z_iload_n X (pc := 34) 2 dX11_ranked_34 rfl rfl ?_
      refine z_callV X (pc := 35) (rest := [.int (nI (cntB (fun o => cAhead g o i) j))]) kv_X11_isAhead (c_X11_isAhead E M g (And.left (SF.rf hg)) j i (show j < 10 by omega) (show i < 10 by omega)) zk_32_0 (zc_32_0 E _) rfl rfl gw_776 (by decide) rfl rfl (Nat.le_of_ble_eq_true rfl) dX11_ranked_35 (zk_i ?_)
      refine z_bif_eq X (pc := 38) (tgt := 45) dX11_ranked_38 (by decide) (fun c38 => ?_) (fun c38 => ?_)
      · refine z_iconst X (pc := 45) (v := 0) dX11_ranked_45 (by decide) ?_
        refine z_iadd X (pc := 46) dX11_ranked_46 ?_
        refine z_top (y := (nI (cntB (fun o => cAhead g o i) j))) (Int32.add_zero _) ?_
        refine z_istore_n X (pc := 47) (lv1 := [(3, .int (nI (cntB (fun o => cAhead g o i) j))), (4, .int (nI j)), (2, .int (nI i)), (0, .ref (za E 32 0)), (1, .int x)]) dX11_ranked_47 rfl (by decide) rfl ?_
        refine z_iinc X (pc := 48) (v := (nI (j + 1))) (lv1 := [(4, .int (nI (j + 1))), (3, .int (nI (cntB (fun o => cAhead g o i) j))), (2, .int (nI i)), (0, .ref (za E 32 0)), (1, .int x)]) 1 dX11_ranked_48 rfl (nI_1 _) (by decide) rfl ?_
        refine z_goto X (pc := 51) (tgt := 18) dX11_ranked_51 (by decide) ?_
        refine z_sub (lv' := [(4, .int (nI (j + 1))), (3, .int (nI (cntB (fun o => cAhead g o i) j))), (2, .int (nI i)), (0, .ref (za E 32 0)), (1, .int x)]) [0, 1, 2, 3, 4] rfl ?_
        refine z_eq (lv' := [(4, .int (nI (j + 1))), (3, .int (nI (cntB (fun o => cAhead g o i) (j + 1)))), (2, .int (nI i)), (0, .ref (za E 32 0)), (1, .int x)]) (by simp [cntB, nI_1, c10, c27, c38]) rfl ?_
        exact ih18 () (by omega) trivial
      · refine z_iconst X (pc := 41) (v := 1) dX11_ranked_41 (by decide) ?_
        refine z_goto X (pc := 42) (tgt := 46) dX11_ranked_42 (by decide) ?_
        refine z_iadd X (pc := 46) dX11_ranked_46 ?_
        refine z_top (y := (nI (cntB (fun o => cAhead g o i) j + 1))) (nI_1 _) ?_
        refine z_istore_n X (pc := 47) (lv1 := [(3, .int (nI (cntB (fun o => cAhead g o i) j + 1))), (4, .int (nI j)), (2, .int (nI i)), (0, .ref (za E 32 0)), (1, .int x)]) dX11_ranked_47 rfl (by decide) rfl ?_
        refine z_iinc X (pc := 48) (v := (nI (j + 1))) (lv1 := [(4, .int (nI (j + 1))), (3, .int (nI (cntB (fun o => cAhead g o i) j + 1))), (2, .int (nI i)), (0, .ref (za E 32 0)), (1, .int x)]) 1 dX11_ranked_48 rfl (nI_1 _) (by decide) rfl ?_
        refine z_goto X (pc := 51) (tgt := 18) dX11_ranked_51 (by decide) ?_
        refine z_sub (lv' := [(4, .int (nI (j + 1))), (3, .int (nI (cntB (fun o => cAhead g o i) j + 1))), (2, .int (nI i)), (0, .ref (za E 32 0)), (1, .int x)]) [0, 1, 2, 3, 4] rfl ?_
        refine z_eq (lv' := [(4, .int (nI (j + 1))), (3, .int (nI (cntB (fun o => cAhead g o i) (j + 1)))), (2, .int (nI i)), (0, .ref (za E 32 0)), (1, .int x)]) (by simp [cntB, nI_1, c10, c27, c38]) rfl ?_
        exact ih18 () (by omega) trivial

def rm_X11_richest : Room := { frames := 2, cells := 0, slots := 0, locals := 46 }
theorem kv_X11_richest : KV yX11_richest RX11 cX11_richest 5 (some .int) 1 := ⟨⟨gw_789, gw_790, gw_5, gw_791⟩, by decide +kernel⟩
set_option maxRecDepth 100000 in
set_option maxHeartbeats 4000000 in
theorem c_X11_richest (E : ZE) (M : Mem) (g : LG) (hg : gF (M 20 0) = g) (nc nm n : Nat) (hI : Inv g nc nm n) (x : Int32) : Mt E yX11_richest cX11_richest 5 (some .int) rm_X11_richest [.ref (za E 32 0), .int x] M (PI (firstB (fun c => decide (nI (cntB (fun o => mAhead g o c) nm) = x)) nm) M) := by
  have hnc := hI.nc; have hnm := hI.nm; have hn := hI.c10; have hn2 := hI.m10
  refine z_met (own := RX11) (lv := [(0, .ref (za E 32 0)), (1, .int x)]) (by decide) rfl (Nat.le_of_ble_eq_true rfl) rfl (fun gg X Y => ?_)
  refine z_iconst X (pc := 0) (v := 0) dX11_richest_0 (by decide) ?_
  refine z_istore_n X (pc := 1) (lv1 := [(2, .int 0), (0, .ref (za E 32 0)), (1, .int x)]) dX11_richest_1 rfl (by decide) rfl ?_
  refine z_sub (lv' := [(2, .int (nI 0)), (0, .ref (za E 32 0)), (1, .int x)]) [0, 1, 2] rfl ?_
  refine z_loop (nm) 2 (σ := Unit) (fun i s => ∀ c, c < i → (fun c => decide (nI (cntB (fun o => mAhead g o c) nm) = x)) c = false) (fun i s => (M, [(2, .int (nI i)), (0, .ref (za E 32 0)), (1, .int x)])) ?_ 0 () (Nat.zero_le _) (fun c hc => absurd hc (Nat.not_lt_zero c))
  intro i s hi2 hJ2 ih2
  show Z gg E M [(2, .int (nI i)), (0, .ref (za E 32 0)), (1, .int x)] 2 []
  refine z_iload_n X (pc := 2) 0 dX11_richest_2 rfl rfl ?_
  refine z_aload_n X (pc := 3) 1 dX11_richest_3 rfl rfl ?_
  refine z_get X (pc := 4) 0 zk_32_0 (zc_32_0 E _) rfl inlX11 (by decide) gw_138 rfl rfl dX11_richest_4 ?_
  refine z_bipush X (pc := 7) (v := 8) dX11_richest_7 (by decide) ?_
  refine z_iald X (pc := 9) (by decide) (show (8 : Int32) = nI 8 from rfl) (by decide) dX11_richest_9 ?_
  refine z_top (y := (nI nm)) ((SF.bk (SF.rf hg) (by decide)).trans hnm) ?_
  refine z_nicmp_ge X (pc := 10) (a := i) (b := nm) (tgt := 67) dX11_richest_10 (by decide) (by omega) (by omega) (fun c10 => ?_) (fun c10 => ?_)
  · refine z_sipush X (pc := 67) (v := (-1011)) dX11_richest_67 (by decide) ?_
    exact z_pret X Y dX11_richest_70 (firstB_no (n := nm) (fun c hc => hJ2 c (by omega))).symm rfl
  · refine z_iconst X (pc := 13) (v := 0) dX11_richest_13 (by decide) ?_
    refine z_istore_n X (pc := 14) (lv1 := [(3, .int 0), (2, .int (nI i)), (0, .ref (za E 32 0)), (1, .int x)]) dX11_richest_14 rfl (by decide) rfl ?_
    refine z_iconst X (pc := 15) (v := 0) dX11_richest_15 (by decide) ?_
    refine z_istore X (pc := 16) (lv1 := [(4, .int 0), (3, .int 0), (2, .int (nI i)), (0, .ref (za E 32 0)), (1, .int x)]) dX11_richest_16 (by decide) rfl ?_
    refine z_sub (lv' := [(4, .int (nI 0)), (3, .int (nI (cntB (fun o => mAhead g o i) 0))), (2, .int (nI i)), (0, .ref (za E 32 0)), (1, .int x)]) [0, 1, 2, 3, 4] rfl ?_
    refine z_loop (nm) 18 (σ := Unit) (fun j s => True) (fun j s => (M, [(4, .int (nI j)), (3, .int (nI (cntB (fun o => mAhead g o i) j))), (2, .int (nI i)), (0, .ref (za E 32 0)), (1, .int x)])) ?_ 0 () (Nat.zero_le _) trivial
    intro j s hi18 hJ18 ih18
    show Z gg E M [(4, .int (nI j)), (3, .int (nI (cntB (fun o => mAhead g o i) j))), (2, .int (nI i)), (0, .ref (za E 32 0)), (1, .int x)] 18 []
    refine z_iload X (pc := 18) 0 dX11_richest_18 rfl ?_
    refine z_aload_n X (pc := 20) 3 dX11_richest_20 rfl rfl ?_
    refine z_get X (pc := 21) 0 zk_32_0 (zc_32_0 E _) rfl inlX11 (by decide) gw_138 rfl rfl dX11_richest_21 ?_
    refine z_bipush X (pc := 24) (v := 8) dX11_richest_24 (by decide) ?_
    refine z_iald X (pc := 26) (by decide) (show (8 : Int32) = nI 8 from rfl) (by decide) dX11_richest_26 ?_
    refine z_top (y := (nI nm)) ((SF.bk (SF.rf hg) (by decide)).trans hnm) ?_
    refine z_nicmp_ge X (pc := 27) (a := j) (b := nm) (tgt := 54) dX11_richest_27 (by decide) (by omega) (by omega) (fun c27 => ?_) (fun c27 => ?_)
    · obtain rfl : nm = j := by omega
      refine z_iload_n X (pc := 54) 1 dX11_richest_54 rfl rfl ?_
      refine z_iload_n X (pc := 55) 4 dX11_richest_55 rfl rfl ?_
      refine z_icmp_ne X (pc := 56) (tgt := 61) dX11_richest_56 (by decide) (fun c56 => ?_) (fun c56 => ?_)
      · refine z_iinc X (pc := 61) (v := (nI (i + 1))) (lv1 := [(2, .int (nI (i + 1))), (4, .int (nI nm)), (3, .int (nI (cntB (fun o => mAhead g o i) nm))), (0, .ref (za E 32 0)), (1, .int x)]) 2 dX11_richest_61 rfl (nI_1 _) (by decide) rfl ?_
        refine z_goto X (pc := 64) (tgt := 2) dX11_richest_64 (by decide) ?_
        refine z_sub (lv' := [(2, .int (nI (i + 1))), (0, .ref (za E 32 0)), (1, .int x)]) [0, 3, 4] rfl ?_
        exact ih2 () (by omega) (fun c hc => by rcases Nat.lt_or_ge c i with e | e; exact hJ2 c e; rw [show c = i by omega]; exact decide_eq_false c56)
      · refine z_iload_n X (pc := 59) 2 dX11_richest_59 rfl rfl ?_
        exact z_pret X Y dX11_richest_60 (firstB_at (n := nm) hJ2 (decide_eq_true c56) (by omega)).symm rfl
    · refine z_iload_n X (pc := 30) 1 dX11_richest_30 rfl rfl ?_
      refine z_aload_n X (pc := 31) 3 dX11_richest_31 rfl rfl ?_
      refine z_iload X (pc := 32) 0 dX11_richest_32 rfl ?_
      refine z_iload_n X (pc := 34) 2 dX11_richest_34 rfl rfl ?_
      refine z_callV X (pc := 35) (rest := [.int (nI (cntB (fun o => mAhead g o i) j))]) kv_X11_isRicher (c_X11_isRicher E M g (And.left (SF.rf hg)) j i (by omega) (by omega) ((hI.nor12 (show j < nm by omega)).le (by omega)) ((hI.nor12 (show i < nm by omega)).le (by omega))) zk_32_0 (zc_32_0 E _) rfl rfl gw_792 (by decide) rfl rfl (Nat.le_of_ble_eq_true rfl) dX11_richest_35 (zk_i ?_)
      refine z_bif_eq X (pc := 38) (tgt := 45) dX11_richest_38 (by decide) (fun c38 => ?_) (fun c38 => ?_)
      · refine z_iconst X (pc := 45) (v := 0) dX11_richest_45 (by decide) ?_
        refine z_iadd X (pc := 46) dX11_richest_46 ?_
        refine z_top (y := (nI (cntB (fun o => mAhead g o i) j))) (Int32.add_zero _) ?_
        refine z_istore_n X (pc := 47) (lv1 := [(3, .int (nI (cntB (fun o => mAhead g o i) j))), (4, .int (nI j)), (2, .int (nI i)), (0, .ref (za E 32 0)), (1, .int x)]) dX11_richest_47 rfl (by decide) rfl ?_
        refine z_iinc X (pc := 48) (v := (nI (j + 1))) (lv1 := [(4, .int (nI (j + 1))), (3, .int (nI (cntB (fun o => mAhead g o i) j))), (2, .int (nI i)), (0, .ref (za E 32 0)), (1, .int x)]) 1 dX11_richest_48 rfl (nI_1 _) (by decide) rfl ?_
        refine z_goto X (pc := 51) (tgt := 18) dX11_richest_51 (by decide) ?_
        refine z_sub (lv' := [(4, .int (nI (j + 1))), (3, .int (nI (cntB (fun o => mAhead g o i) j))), (2, .int (nI i)), (0, .ref (za E 32 0)), (1, .int x)]) [0, 1, 2, 3, 4] rfl ?_
        refine z_eq (lv' := [(4, .int (nI (j + 1))), (3, .int (nI (cntB (fun o => mAhead g o i) (j + 1)))), (2, .int (nI i)), (0, .ref (za E 32 0)), (1, .int x)]) (by simp [cntB, nI_1, c10, c27, c38]) rfl ?_
        exact ih18 () (by omega) trivial
      · refine z_iconst X (pc := 41) (v := 1) dX11_richest_41 (by decide) ?_
        refine z_goto X (pc := 42) (tgt := 46) dX11_richest_42 (by decide) ?_
        refine z_iadd X (pc := 46) dX11_richest_46 ?_
        refine z_top (y := (nI (cntB (fun o => mAhead g o i) j + 1))) (nI_1 _) ?_
        refine z_istore_n X (pc := 47) (lv1 := [(3, .int (nI (cntB (fun o => mAhead g o i) j + 1))), (4, .int (nI j)), (2, .int (nI i)), (0, .ref (za E 32 0)), (1, .int x)]) dX11_richest_47 rfl (by decide) rfl ?_
        refine z_iinc X (pc := 48) (v := (nI (j + 1))) (lv1 := [(4, .int (nI (j + 1))), (3, .int (nI (cntB (fun o => mAhead g o i) j + 1))), (2, .int (nI i)), (0, .ref (za E 32 0)), (1, .int x)]) 1 dX11_richest_48 rfl (nI_1 _) (by decide) rfl ?_
        refine z_goto X (pc := 51) (tgt := 18) dX11_richest_51 (by decide) ?_
        refine z_sub (lv' := [(4, .int (nI (j + 1))), (3, .int (nI (cntB (fun o => mAhead g o i) j + 1))), (2, .int (nI i)), (0, .ref (za E 32 0)), (1, .int x)]) [0, 1, 2, 3, 4] rfl ?_
        refine z_eq (lv' := [(4, .int (nI (j + 1))), (3, .int (nI (cntB (fun o => mAhead g o i) (j + 1)))), (2, .int (nI i)), (0, .ref (za E 32 0)), (1, .int x)]) (by simp [cntB, nI_1, c10, c27, c38]) rfl ?_
        exact ih18 () (by omega) trivial

def rm_X11_areRestless : Room := { frames := 3, cells := 0, slots := 0, locals := 70 }
theorem kv_X11_areRestless : KV yX11_areRestless RX11 cX11_areRestless 5 (some .boolean) 2 := ⟨⟨gw_626, gw_627, gw_5, gw_628⟩, by decide +kernel⟩
set_option maxRecDepth 100000 in
set_option maxHeartbeats 4000000 in
theorem c_X11_areRestless (E : ZE) (M : Mem) (g : LG) (hg : gF (M 20 0) = g) (nc nm n : Nat) (hI : Inv g nc nm n) (c m : Nat) (hc : c < nc) (hm : m < nm) : Mt E yX11_areRestless cX11_areRestless 5 (some .boolean) rm_X11_areRestless [.ref (za E 32 0), .int (nI c), .int (nI m)] M (PI (zb (areR g c m)) M) := by
  have hnc := hI.nc; have hnm := hI.nm; have hn := hI.c10; have hn2 := hI.m10
  refine z_met (own := RX11) (lv := [(0, .ref (za E 32 0)), (1, .int (nI c)), (2, .int (nI m))]) (by decide) rfl (Nat.le_of_ble_eq_true rfl) rfl (fun gg X Y => ?_)
  refine z_aload_n X (pc := 0) 0 dX11_areRestless_0 rfl rfl ?_
  refine z_iload_n X (pc := 1) 1 dX11_areRestless_1 rfl rfl ?_
  refine z_bipush X (pc := 2) (v := 6) dX11_areRestless_2 (by decide) ?_
  refine z_callV X (pc := 4) (rest := []) kv_X11_ofChair (c_X11_ofChair E M g (And.left (SF.rf hg)) c 6 (show c < 10 by omega) (by decide)) zk_32_0 (zc_32_0 E _) rfl rfl gw_323 (by decide) rfl rfl (Nat.le_of_ble_eq_true rfl) dX11_areRestless_4 (zk_i ?_)
  rcases (show nOr (g 6 c) 10 from ((hI.nor6 hc).le (by omega))) with hp7 | ⟨k7, hk7, hp7⟩
  · refine z_top (y := ((-1))) hp7 ?_
    refine z_istore_n X (pc := 7) (lv1 := [(3, .int ((-1))), (0, .ref (za E 32 0)), (1, .int (nI c)), (2, .int (nI m))]) dX11_areRestless_7 rfl (by decide) rfl ?_
    refine z_aload_n X (pc := 8) 1 dX11_areRestless_8 rfl rfl ?_
    refine z_iload_n X (pc := 9) 3 dX11_areRestless_9 rfl rfl ?_
    refine z_iconst X (pc := 10) (v := 5) dX11_areRestless_10 (by decide) ?_
    refine z_callV X (pc := 11) (rest := []) kv_X11_of (c_X11_of E M g (And.left (SF.rf hg)) m 5 (show m < 10 by omega) (by decide)) zk_32_0 (zc_32_0 E _) rfl rfl gw_354 (by decide) rfl rfl (Nat.le_of_ble_eq_true rfl) dX11_areRestless_11 (zk_i ?_)
    rcases (show nOr (g 12 m) 10 from ((hI.nor12 hm).le (by omega))) with hp14 | ⟨k14, hk14, hp14⟩
    · refine z_top (y := ((-1))) hp14 ?_
      refine z_istore X (pc := 14) (lv1 := [(4, .int ((-1))), (3, .int ((-1))), (0, .ref (za E 32 0)), (1, .int (nI c)), (2, .int (nI m))]) dX11_areRestless_14 (by decide) rfl ?_
      refine z_iload X (pc := 16) 0 dX11_areRestless_16 rfl ?_
      refine z_iload_n X (pc := 18) 3 dX11_areRestless_18 rfl rfl ?_
      refine z_icmp_eq X (pc := 19) (tgt := 64) dX11_areRestless_19 (by decide) (fun c19 => ?_) (fun c19 => ?_)
      · exact absurd c19.symm (nI_ne_m1 (by omega))
      · refine z_aload_n X (pc := 22) 2 dX11_areRestless_22 rfl rfl ?_
        refine z_iload_n X (pc := 23) 3 dX11_areRestless_23 rfl rfl ?_
        refine z_iload_n X (pc := 24) 4 dX11_areRestless_24 rfl rfl ?_
        refine z_callV X (pc := 25) (rest := []) kv_X11_wants (c_X11_wants E M g (And.left (SF.rf hg)) c m (show c < 10 by omega) (show m < 10 by omega)) zk_32_0 (zc_32_0 E _) rfl rfl gw_462 (by decide) rfl rfl (Nat.le_of_ble_eq_true rfl) dX11_areRestless_25 (zk_i ?_)
        refine z_bif_eq X (pc := 28) (tgt := 64) dX11_areRestless_28 (by decide) (fun c28 => ?_) (fun c28 => ?_)
        · refine z_iconst X (pc := 64) (v := 0) dX11_areRestless_64 (by decide) ?_
          exact z_bret X Y dX11_areRestless_65 (by simp [areR, who, zb, hp7, hp14, c28]) rfl
        · refine z_aload_n X (pc := 31) 2 dX11_areRestless_31 rfl rfl ?_
          refine z_iload_n X (pc := 32) 3 dX11_areRestless_32 rfl rfl ?_
          refine z_iload_n X (pc := 33) 4 dX11_areRestless_33 rfl rfl ?_
          refine z_iload_n X (pc := 34) 1 dX11_areRestless_34 rfl rfl ?_
          refine z_callV X (pc := 35) (rest := []) kv_X11_isRatherHad (c_X11_isRatherHad_no E M g (And.left (SF.rf hg)) c m (show c < 10 by omega) (show m < 10 by omega)) zk_32_0 (zc_32_0 E _) rfl rfl gw_567 (by decide) rfl rfl (Nat.le_of_ble_eq_true rfl) dX11_areRestless_35 (zk_i ?_)
          refine z_if_eq X (pc := 38) (tgt := 64) dX11_areRestless_38 (by decide) (fun c38 => ?_) (fun c38 => ?_)
          · exact absurd c38 (by decide)
          · refine z_aload_n X (pc := 41) 2 dX11_areRestless_41 rfl rfl ?_
            refine z_iload_n X (pc := 42) 4 dX11_areRestless_42 rfl rfl ?_
            refine z_iload_n X (pc := 43) 3 dX11_areRestless_43 rfl rfl ?_
            refine z_callV X (pc := 44) (rest := []) kv_X11_bears (c_X11_bears E M g (And.left (SF.rf hg)) m c (show m < 10 by omega) (show c < 10 by omega)) zk_32_0 (zc_32_0 E _) rfl rfl gw_466 (by decide) rfl rfl (Nat.le_of_ble_eq_true rfl) dX11_areRestless_44 (zk_i ?_)
            refine z_bif_eq X (pc := 47) (tgt := 64) dX11_areRestless_47 (by decide) (fun c47 => ?_) (fun c47 => ?_)
            · refine z_iconst X (pc := 64) (v := 0) dX11_areRestless_64 (by decide) ?_
              exact z_bret X Y dX11_areRestless_65 (by simp [areR, who, zb, hp7, hp14, c28, c38, c47]) rfl
            · refine z_aload_n X (pc := 50) 2 dX11_areRestless_50 rfl rfl ?_
              refine z_iload_n X (pc := 51) 3 dX11_areRestless_51 rfl rfl ?_
              refine z_iload X (pc := 52) 0 dX11_areRestless_52 rfl ?_
              refine z_callV X (pc := 54) (rest := []) kv_X11_isRatherSatOn (c_X11_isRatherSatOn_no E M g (And.left (SF.rf hg)) c (show c < 10 by omega)) zk_32_0 (zc_32_0 E _) rfl rfl gw_575 (by decide) rfl rfl (Nat.le_of_ble_eq_true rfl) dX11_areRestless_54 (zk_i ?_)
              refine z_if_eq X (pc := 57) (tgt := 64) dX11_areRestless_57 (by decide) (fun c57 => ?_) (fun c57 => ?_)
              · exact absurd c57 (by decide)
              · refine z_iconst X (pc := 60) (v := 1) dX11_areRestless_60 (by decide) ?_
                refine z_goto X (pc := 61) (tgt := 65) dX11_areRestless_61 (by decide) ?_
                exact z_bret X Y dX11_areRestless_65 (by simp [areR, who, zb, hp7, hp14, c28, c38, c47, c57]) rfl
    · refine z_top (y := (nI k14)) hp14 ?_
      refine z_istore X (pc := 14) (lv1 := [(4, .int (nI k14)), (3, .int ((-1))), (0, .ref (za E 32 0)), (1, .int (nI c)), (2, .int (nI m))]) dX11_areRestless_14 (by decide) rfl ?_
      refine z_iload X (pc := 16) 0 dX11_areRestless_16 rfl ?_
      refine z_iload_n X (pc := 18) 3 dX11_areRestless_18 rfl rfl ?_
      refine z_nicmp_eq X (pc := 19) (a := k14) (b := c) (tgt := 64) dX11_areRestless_19 (by decide) (by omega) (by omega) (fun c19 => ?_) (fun c19 => ?_)
      · refine z_iconst X (pc := 64) (v := 0) dX11_areRestless_64 (by decide) ?_
        exact z_bret X Y dX11_areRestless_65 (by simp [areR, who, zb, rsat, zmore, Int32.sub_self, nI_ne_m1 (show c < 2 ^ 31 by omega), nI_clamp (show c < 2 ^ 31 by omega), hp7, hp14, nI_ne_m1 (show k14 < 2 ^ 31 by omega), nI_clamp (show k14 < 2 ^ 31 by omega), show k14 = c by omega]) rfl
      · refine z_aload_n X (pc := 22) 2 dX11_areRestless_22 rfl rfl ?_
        refine z_iload_n X (pc := 23) 3 dX11_areRestless_23 rfl rfl ?_
        refine z_iload_n X (pc := 24) 4 dX11_areRestless_24 rfl rfl ?_
        refine z_callV X (pc := 25) (rest := []) kv_X11_wants (c_X11_wants E M g (And.left (SF.rf hg)) c m (show c < 10 by omega) (show m < 10 by omega)) zk_32_0 (zc_32_0 E _) rfl rfl gw_462 (by decide) rfl rfl (Nat.le_of_ble_eq_true rfl) dX11_areRestless_25 (zk_i ?_)
        refine z_bif_eq X (pc := 28) (tgt := 64) dX11_areRestless_28 (by decide) (fun c28 => ?_) (fun c28 => ?_)
        · refine z_iconst X (pc := 64) (v := 0) dX11_areRestless_64 (by decide) ?_
          exact z_bret X Y dX11_areRestless_65 (by simp [areR, who, zb, hp7, hp14, nI_ne_m1 (show k14 < 2 ^ 31 by omega), nI_clamp (show k14 < 2 ^ 31 by omega), c28]) rfl
        · refine z_aload_n X (pc := 31) 2 dX11_areRestless_31 rfl rfl ?_
          refine z_iload_n X (pc := 32) 3 dX11_areRestless_32 rfl rfl ?_
          refine z_iload_n X (pc := 33) 4 dX11_areRestless_33 rfl rfl ?_
          refine z_iload_n X (pc := 34) 1 dX11_areRestless_34 rfl rfl ?_
          refine z_callV X (pc := 35) (rest := []) kv_X11_isRatherHad (c_X11_isRatherHad_no E M g (And.left (SF.rf hg)) c m (show c < 10 by omega) (show m < 10 by omega)) zk_32_0 (zc_32_0 E _) rfl rfl gw_567 (by decide) rfl rfl (Nat.le_of_ble_eq_true rfl) dX11_areRestless_35 (zk_i ?_)
          refine z_if_eq X (pc := 38) (tgt := 64) dX11_areRestless_38 (by decide) (fun c38 => ?_) (fun c38 => ?_)
          · exact absurd c38 (by decide)
          · refine z_aload_n X (pc := 41) 2 dX11_areRestless_41 rfl rfl ?_
            refine z_iload_n X (pc := 42) 4 dX11_areRestless_42 rfl rfl ?_
            refine z_iload_n X (pc := 43) 3 dX11_areRestless_43 rfl rfl ?_
            refine z_callV X (pc := 44) (rest := []) kv_X11_bears (c_X11_bears E M g (And.left (SF.rf hg)) m c (show m < 10 by omega) (show c < 10 by omega)) zk_32_0 (zc_32_0 E _) rfl rfl gw_466 (by decide) rfl rfl (Nat.le_of_ble_eq_true rfl) dX11_areRestless_44 (zk_i ?_)
            refine z_bif_eq X (pc := 47) (tgt := 64) dX11_areRestless_47 (by decide) (fun c47 => ?_) (fun c47 => ?_)
            · refine z_iconst X (pc := 64) (v := 0) dX11_areRestless_64 (by decide) ?_
              exact z_bret X Y dX11_areRestless_65 (by simp [areR, who, zb, hp7, hp14, nI_ne_m1 (show k14 < 2 ^ 31 by omega), nI_clamp (show k14 < 2 ^ 31 by omega), c28, c38, c47]) rfl
            · refine z_aload_n X (pc := 50) 2 dX11_areRestless_50 rfl rfl ?_
              refine z_iload_n X (pc := 51) 3 dX11_areRestless_51 rfl rfl ?_
              refine z_iload X (pc := 52) 0 dX11_areRestless_52 rfl ?_
              refine z_callV X (pc := 54) (rest := []) kv_X11_isRatherSatOn (c_X11_isRatherSatOn E M g (And.left (SF.rf hg)) c k14 (show c < 10 by omega) (show k14 < 10 by omega)) zk_32_0 (zc_32_0 E _) rfl rfl gw_575 (by decide) rfl rfl (Nat.le_of_ble_eq_true rfl) dX11_areRestless_54 (zk_i ?_)
              refine z_bif_eq X (pc := 57) (tgt := 64) dX11_areRestless_57 (by decide) (fun c57 => ?_) (fun c57 => ?_)
              · refine z_iconst X (pc := 64) (v := 0) dX11_areRestless_64 (by decide) ?_
                exact z_bret X Y dX11_areRestless_65 (by simp [areR, who, zb, hp7, hp14, nI_ne_m1 (show k14 < 2 ^ 31 by omega), nI_clamp (show k14 < 2 ^ 31 by omega), c28, c38, c47, c57]) rfl
              · refine z_iconst X (pc := 60) (v := 1) dX11_areRestless_60 (by decide) ?_
                refine z_goto X (pc := 61) (tgt := 65) dX11_areRestless_61 (by decide) ?_
                exact z_bret X Y dX11_areRestless_65 (by simp [areR, who, zb, hp7, hp14, nI_ne_m1 (show k14 < 2 ^ 31 by omega), nI_clamp (show k14 < 2 ^ 31 by omega), c28, c38, c47, c57]) rfl
  · refine z_top (y := (nI k7)) hp7 ?_
    refine z_istore_n X (pc := 7) (lv1 := [(3, .int (nI k7)), (0, .ref (za E 32 0)), (1, .int (nI c)), (2, .int (nI m))]) dX11_areRestless_7 rfl (by decide) rfl ?_
    refine z_aload_n X (pc := 8) 1 dX11_areRestless_8 rfl rfl ?_
    refine z_iload_n X (pc := 9) 3 dX11_areRestless_9 rfl rfl ?_
    refine z_iconst X (pc := 10) (v := 5) dX11_areRestless_10 (by decide) ?_
    refine z_callV X (pc := 11) (rest := []) kv_X11_of (c_X11_of E M g (And.left (SF.rf hg)) m 5 (show m < 10 by omega) (by decide)) zk_32_0 (zc_32_0 E _) rfl rfl gw_354 (by decide) rfl rfl (Nat.le_of_ble_eq_true rfl) dX11_areRestless_11 (zk_i ?_)
    rcases (show nOr (g 12 m) 10 from ((hI.nor12 hm).le (by omega))) with hp14 | ⟨k14, hk14, hp14⟩
    · refine z_top (y := ((-1))) hp14 ?_
      refine z_istore X (pc := 14) (lv1 := [(4, .int ((-1))), (3, .int (nI k7)), (0, .ref (za E 32 0)), (1, .int (nI c)), (2, .int (nI m))]) dX11_areRestless_14 (by decide) rfl ?_
      refine z_iload X (pc := 16) 0 dX11_areRestless_16 rfl ?_
      refine z_iload_n X (pc := 18) 3 dX11_areRestless_18 rfl rfl ?_
      refine z_icmp_eq X (pc := 19) (tgt := 64) dX11_areRestless_19 (by decide) (fun c19 => ?_) (fun c19 => ?_)
      · exact absurd c19.symm (nI_ne_m1 (by omega))
      · refine z_aload_n X (pc := 22) 2 dX11_areRestless_22 rfl rfl ?_
        refine z_iload_n X (pc := 23) 3 dX11_areRestless_23 rfl rfl ?_
        refine z_iload_n X (pc := 24) 4 dX11_areRestless_24 rfl rfl ?_
        refine z_callV X (pc := 25) (rest := []) kv_X11_wants (c_X11_wants E M g (And.left (SF.rf hg)) c m (show c < 10 by omega) (show m < 10 by omega)) zk_32_0 (zc_32_0 E _) rfl rfl gw_462 (by decide) rfl rfl (Nat.le_of_ble_eq_true rfl) dX11_areRestless_25 (zk_i ?_)
        refine z_bif_eq X (pc := 28) (tgt := 64) dX11_areRestless_28 (by decide) (fun c28 => ?_) (fun c28 => ?_)
        · refine z_iconst X (pc := 64) (v := 0) dX11_areRestless_64 (by decide) ?_
          exact z_bret X Y dX11_areRestless_65 (by simp [areR, who, zb, hp7, nI_ne_m1 (show k7 < 2 ^ 31 by omega), nI_clamp (show k7 < 2 ^ 31 by omega), hp14, c28]) rfl
        · refine z_aload_n X (pc := 31) 2 dX11_areRestless_31 rfl rfl ?_
          refine z_iload_n X (pc := 32) 3 dX11_areRestless_32 rfl rfl ?_
          refine z_iload_n X (pc := 33) 4 dX11_areRestless_33 rfl rfl ?_
          refine z_iload_n X (pc := 34) 1 dX11_areRestless_34 rfl rfl ?_
          refine z_callV X (pc := 35) (rest := []) kv_X11_isRatherHad (c_X11_isRatherHad E M g (And.left (SF.rf hg)) c m k7 (show c < 10 by omega) (show m < 10 by omega) (show k7 < 10 by omega)) zk_32_0 (zc_32_0 E _) rfl rfl gw_567 (by decide) rfl rfl (Nat.le_of_ble_eq_true rfl) dX11_areRestless_35 (zk_i ?_)
          refine z_bif_eq X (pc := 38) (tgt := 64) dX11_areRestless_38 (by decide) (fun c38 => ?_) (fun c38 => ?_)
          · refine z_iconst X (pc := 64) (v := 0) dX11_areRestless_64 (by decide) ?_
            exact z_bret X Y dX11_areRestless_65 (by simp [areR, who, zb, hp7, nI_ne_m1 (show k7 < 2 ^ 31 by omega), nI_clamp (show k7 < 2 ^ 31 by omega), hp14, c28, c38]) rfl
          · refine z_aload_n X (pc := 41) 2 dX11_areRestless_41 rfl rfl ?_
            refine z_iload_n X (pc := 42) 4 dX11_areRestless_42 rfl rfl ?_
            refine z_iload_n X (pc := 43) 3 dX11_areRestless_43 rfl rfl ?_
            refine z_callV X (pc := 44) (rest := []) kv_X11_bears (c_X11_bears E M g (And.left (SF.rf hg)) m c (show m < 10 by omega) (show c < 10 by omega)) zk_32_0 (zc_32_0 E _) rfl rfl gw_466 (by decide) rfl rfl (Nat.le_of_ble_eq_true rfl) dX11_areRestless_44 (zk_i ?_)
            refine z_bif_eq X (pc := 47) (tgt := 64) dX11_areRestless_47 (by decide) (fun c47 => ?_) (fun c47 => ?_)
            · refine z_iconst X (pc := 64) (v := 0) dX11_areRestless_64 (by decide) ?_
              exact z_bret X Y dX11_areRestless_65 (by simp [areR, who, zb, hp7, nI_ne_m1 (show k7 < 2 ^ 31 by omega), nI_clamp (show k7 < 2 ^ 31 by omega), hp14, c28, c38, c47]) rfl
            · refine z_aload_n X (pc := 50) 2 dX11_areRestless_50 rfl rfl ?_
              refine z_iload_n X (pc := 51) 3 dX11_areRestless_51 rfl rfl ?_
              refine z_iload X (pc := 52) 0 dX11_areRestless_52 rfl ?_
              refine z_callV X (pc := 54) (rest := []) kv_X11_isRatherSatOn (c_X11_isRatherSatOn_no E M g (And.left (SF.rf hg)) c (show c < 10 by omega)) zk_32_0 (zc_32_0 E _) rfl rfl gw_575 (by decide) rfl rfl (Nat.le_of_ble_eq_true rfl) dX11_areRestless_54 (zk_i ?_)
              refine z_if_eq X (pc := 57) (tgt := 64) dX11_areRestless_57 (by decide) (fun c57 => ?_) (fun c57 => ?_)
              · exact absurd c57 (by decide)
              · refine z_iconst X (pc := 60) (v := 1) dX11_areRestless_60 (by decide) ?_
                refine z_goto X (pc := 61) (tgt := 65) dX11_areRestless_61 (by decide) ?_
                exact z_bret X Y dX11_areRestless_65 (by simp [areR, who, zb, hp7, nI_ne_m1 (show k7 < 2 ^ 31 by omega), nI_clamp (show k7 < 2 ^ 31 by omega), hp14, c28, c38, c47, c57]) rfl
    · refine z_top (y := (nI k14)) hp14 ?_
      refine z_istore X (pc := 14) (lv1 := [(4, .int (nI k14)), (3, .int (nI k7)), (0, .ref (za E 32 0)), (1, .int (nI c)), (2, .int (nI m))]) dX11_areRestless_14 (by decide) rfl ?_
      refine z_iload X (pc := 16) 0 dX11_areRestless_16 rfl ?_
      refine z_iload_n X (pc := 18) 3 dX11_areRestless_18 rfl rfl ?_
      refine z_nicmp_eq X (pc := 19) (a := k14) (b := c) (tgt := 64) dX11_areRestless_19 (by decide) (by omega) (by omega) (fun c19 => ?_) (fun c19 => ?_)
      · refine z_iconst X (pc := 64) (v := 0) dX11_areRestless_64 (by decide) ?_
        exact z_bret X Y dX11_areRestless_65 (by simp [areR, who, zb, rsat, zmore, Int32.sub_self, nI_ne_m1 (show c < 2 ^ 31 by omega), nI_clamp (show c < 2 ^ 31 by omega), hp7, nI_ne_m1 (show k7 < 2 ^ 31 by omega), nI_clamp (show k7 < 2 ^ 31 by omega), hp14, nI_ne_m1 (show k14 < 2 ^ 31 by omega), nI_clamp (show k14 < 2 ^ 31 by omega), show k14 = c by omega]) rfl
      · refine z_aload_n X (pc := 22) 2 dX11_areRestless_22 rfl rfl ?_
        refine z_iload_n X (pc := 23) 3 dX11_areRestless_23 rfl rfl ?_
        refine z_iload_n X (pc := 24) 4 dX11_areRestless_24 rfl rfl ?_
        refine z_callV X (pc := 25) (rest := []) kv_X11_wants (c_X11_wants E M g (And.left (SF.rf hg)) c m (show c < 10 by omega) (show m < 10 by omega)) zk_32_0 (zc_32_0 E _) rfl rfl gw_462 (by decide) rfl rfl (Nat.le_of_ble_eq_true rfl) dX11_areRestless_25 (zk_i ?_)
        refine z_bif_eq X (pc := 28) (tgt := 64) dX11_areRestless_28 (by decide) (fun c28 => ?_) (fun c28 => ?_)
        · refine z_iconst X (pc := 64) (v := 0) dX11_areRestless_64 (by decide) ?_
          exact z_bret X Y dX11_areRestless_65 (by simp [areR, who, zb, hp7, nI_ne_m1 (show k7 < 2 ^ 31 by omega), nI_clamp (show k7 < 2 ^ 31 by omega), hp14, nI_ne_m1 (show k14 < 2 ^ 31 by omega), nI_clamp (show k14 < 2 ^ 31 by omega), c28]) rfl
        · refine z_aload_n X (pc := 31) 2 dX11_areRestless_31 rfl rfl ?_
          refine z_iload_n X (pc := 32) 3 dX11_areRestless_32 rfl rfl ?_
          refine z_iload_n X (pc := 33) 4 dX11_areRestless_33 rfl rfl ?_
          refine z_iload_n X (pc := 34) 1 dX11_areRestless_34 rfl rfl ?_
          refine z_callV X (pc := 35) (rest := []) kv_X11_isRatherHad (c_X11_isRatherHad E M g (And.left (SF.rf hg)) c m k7 (show c < 10 by omega) (show m < 10 by omega) (show k7 < 10 by omega)) zk_32_0 (zc_32_0 E _) rfl rfl gw_567 (by decide) rfl rfl (Nat.le_of_ble_eq_true rfl) dX11_areRestless_35 (zk_i ?_)
          refine z_bif_eq X (pc := 38) (tgt := 64) dX11_areRestless_38 (by decide) (fun c38 => ?_) (fun c38 => ?_)
          · refine z_iconst X (pc := 64) (v := 0) dX11_areRestless_64 (by decide) ?_
            exact z_bret X Y dX11_areRestless_65 (by simp [areR, who, zb, hp7, nI_ne_m1 (show k7 < 2 ^ 31 by omega), nI_clamp (show k7 < 2 ^ 31 by omega), hp14, nI_ne_m1 (show k14 < 2 ^ 31 by omega), nI_clamp (show k14 < 2 ^ 31 by omega), c28, c38]) rfl
          · refine z_aload_n X (pc := 41) 2 dX11_areRestless_41 rfl rfl ?_
            refine z_iload_n X (pc := 42) 4 dX11_areRestless_42 rfl rfl ?_
            refine z_iload_n X (pc := 43) 3 dX11_areRestless_43 rfl rfl ?_
            refine z_callV X (pc := 44) (rest := []) kv_X11_bears (c_X11_bears E M g (And.left (SF.rf hg)) m c (show m < 10 by omega) (show c < 10 by omega)) zk_32_0 (zc_32_0 E _) rfl rfl gw_466 (by decide) rfl rfl (Nat.le_of_ble_eq_true rfl) dX11_areRestless_44 (zk_i ?_)
            refine z_bif_eq X (pc := 47) (tgt := 64) dX11_areRestless_47 (by decide) (fun c47 => ?_) (fun c47 => ?_)
            · refine z_iconst X (pc := 64) (v := 0) dX11_areRestless_64 (by decide) ?_
              exact z_bret X Y dX11_areRestless_65 (by simp [areR, who, zb, hp7, nI_ne_m1 (show k7 < 2 ^ 31 by omega), nI_clamp (show k7 < 2 ^ 31 by omega), hp14, nI_ne_m1 (show k14 < 2 ^ 31 by omega), nI_clamp (show k14 < 2 ^ 31 by omega), c28, c38, c47]) rfl
            · refine z_aload_n X (pc := 50) 2 dX11_areRestless_50 rfl rfl ?_
              refine z_iload_n X (pc := 51) 3 dX11_areRestless_51 rfl rfl ?_
              refine z_iload X (pc := 52) 0 dX11_areRestless_52 rfl ?_
              refine z_callV X (pc := 54) (rest := []) kv_X11_isRatherSatOn (c_X11_isRatherSatOn E M g (And.left (SF.rf hg)) c k14 (show c < 10 by omega) (show k14 < 10 by omega)) zk_32_0 (zc_32_0 E _) rfl rfl gw_575 (by decide) rfl rfl (Nat.le_of_ble_eq_true rfl) dX11_areRestless_54 (zk_i ?_)
              refine z_bif_eq X (pc := 57) (tgt := 64) dX11_areRestless_57 (by decide) (fun c57 => ?_) (fun c57 => ?_)
              · refine z_iconst X (pc := 64) (v := 0) dX11_areRestless_64 (by decide) ?_
                exact z_bret X Y dX11_areRestless_65 (by simp [areR, who, zb, hp7, nI_ne_m1 (show k7 < 2 ^ 31 by omega), nI_clamp (show k7 < 2 ^ 31 by omega), hp14, nI_ne_m1 (show k14 < 2 ^ 31 by omega), nI_clamp (show k14 < 2 ^ 31 by omega), c28, c38, c47, c57]) rfl
              · refine z_iconst X (pc := 60) (v := 1) dX11_areRestless_60 (by decide) ?_
                refine z_goto X (pc := 61) (tgt := 65) dX11_areRestless_61 (by decide) ?_
                exact z_bret X Y dX11_areRestless_65 (by simp [areR, who, zb, hp7, nI_ne_m1 (show k7 < 2 ^ 31 by omega), nI_clamp (show k7 < 2 ^ 31 by omega), hp14, nI_ne_m1 (show k14 < 2 ^ 31 by omega), nI_clamp (show k14 < 2 ^ 31 by omega), c28, c38, c47, c57]) rfl

def rm_X11_restless : Room := { frames := 4, cells := 0, slots := 0, locals := 94 }
theorem kv_X11_restless : KV yX11_restless RX11 cX11_restless 4 (some .int) 0 := ⟨⟨gw_622, gw_623, gw_5, gw_624⟩, by decide +kernel⟩
set_option maxRecDepth 100000 in
set_option maxHeartbeats 4000000 in
theorem c_X11_restless (E : ZE) (M : Mem) (g : LG) (hg : gF (M 20 0) = g) (nc nm n : Nat) (hI : Inv g nc nm n)  : Mt E yX11_restless cX11_restless 4 (some .int) rm_X11_restless [.ref (za E 32 0)] M (PI (nI (restN g nm nc)) M) := by
  have hnc := hI.nc; have hnm := hI.nm; have hn := hI.c10; have hn2 := hI.m10
  refine z_met (own := RX11) (lv := [(0, .ref (za E 32 0))]) (by decide) rfl (Nat.le_of_ble_eq_true rfl) rfl (fun gg X Y => ?_)
  refine z_iconst X (pc := 0) (v := 0) dX11_restless_0 (by decide) ?_
  refine z_istore_n X (pc := 1) (lv1 := [(1, .int 0), (0, .ref (za E 32 0))]) dX11_restless_1 rfl (by decide) rfl ?_
  refine z_iconst X (pc := 2) (v := 0) dX11_restless_2 (by decide) ?_
  refine z_istore_n X (pc := 3) (lv1 := [(2, .int 0), (1, .int 0), (0, .ref (za E 32 0))]) dX11_restless_3 rfl (by decide) rfl ?_
  refine z_sub (lv' := [(2, .int (nI 0)), (1, .int (nI (restN g nm 0))), (0, .ref (za E 32 0))]) [0, 1, 2] rfl ?_
  refine z_loop (nc) 4 (σ := Unit) (fun i s => True) (fun i s => (M, [(2, .int (nI i)), (1, .int (nI (restN g nm i))), (0, .ref (za E 32 0))])) ?_ 0 () (Nat.zero_le _) trivial
  intro i s hi4 hJ4 ih4
  show Z gg E M [(2, .int (nI i)), (1, .int (nI (restN g nm i))), (0, .ref (za E 32 0))] 4 []
  refine z_iload_n X (pc := 4) 0 dX11_restless_4 rfl rfl ?_
  refine z_aload_n X (pc := 5) 2 dX11_restless_5 rfl rfl ?_
  refine z_get X (pc := 6) 0 zk_32_0 (zc_32_0 E _) rfl inlX11 (by decide) gw_138 rfl rfl dX11_restless_6 ?_
  refine z_bipush X (pc := 9) (v := 7) dX11_restless_9 (by decide) ?_
  refine z_iald X (pc := 11) (by decide) (show (7 : Int32) = nI 7 from rfl) (by decide) dX11_restless_11 ?_
  refine z_top (y := (nI nc)) ((SF.bk (SF.rf hg) (by decide)).trans hnc) ?_
  refine z_nicmp_ge X (pc := 12) (a := i) (b := nc) (tgt := 57) dX11_restless_12 (by decide) (by omega) (by omega) (fun c12 => ?_) (fun c12 => ?_)
  · refine z_iload_n X (pc := 57) 1 dX11_restless_57 rfl rfl ?_
    exact z_pret X Y dX11_restless_58 (by rw [show i = nc by omega]) rfl
  · refine z_iconst X (pc := 15) (v := 0) dX11_restless_15 (by decide) ?_
    refine z_istore_n X (pc := 16) (lv1 := [(3, .int 0), (2, .int (nI i)), (1, .int (nI (restN g nm i))), (0, .ref (za E 32 0))]) dX11_restless_16 rfl (by decide) rfl ?_
    refine z_sub (lv' := [(3, .int (nI 0)), (2, .int (nI i)), (1, .int (nI (restN g nm i + cntB (areR g i) 0))), (0, .ref (za E 32 0))]) [0, 1, 2, 3] rfl ?_
    refine z_loop (nm) 17 (σ := Unit) (fun j s => True) (fun j s => (M, [(3, .int (nI j)), (2, .int (nI i)), (1, .int (nI (restN g nm i + cntB (areR g i) j))), (0, .ref (za E 32 0))])) ?_ 0 () (Nat.zero_le _) trivial
    intro j s hi17 hJ17 ih17
    show Z gg E M [(3, .int (nI j)), (2, .int (nI i)), (1, .int (nI (restN g nm i + cntB (areR g i) j))), (0, .ref (za E 32 0))] 17 []
    refine z_iload_n X (pc := 17) 0 dX11_restless_17 rfl rfl ?_
    refine z_aload_n X (pc := 18) 3 dX11_restless_18 rfl rfl ?_
    refine z_get X (pc := 19) 0 zk_32_0 (zc_32_0 E _) rfl inlX11 (by decide) gw_138 rfl rfl dX11_restless_19 ?_
    refine z_bipush X (pc := 22) (v := 8) dX11_restless_22 (by decide) ?_
    refine z_iald X (pc := 24) (by decide) (show (8 : Int32) = nI 8 from rfl) (by decide) dX11_restless_24 ?_
    refine z_top (y := (nI nm)) ((SF.bk (SF.rf hg) (by decide)).trans hnm) ?_
    refine z_nicmp_ge X (pc := 25) (a := j) (b := nm) (tgt := 51) dX11_restless_25 (by decide) (by omega) (by omega) (fun c25 => ?_) (fun c25 => ?_)
    · obtain rfl : nm = j := by omega
      refine z_iinc X (pc := 51) (v := (nI (i + 1))) (lv1 := [(2, .int (nI (i + 1))), (3, .int (nI nm)), (1, .int (nI (restN g nm i + cntB (areR g i) nm))), (0, .ref (za E 32 0))]) 1 dX11_restless_51 rfl (nI_1 _) (by decide) rfl ?_
      refine z_goto X (pc := 54) (tgt := 4) dX11_restless_54 (by decide) ?_
      refine z_sub (lv' := [(2, .int (nI (i + 1))), (1, .int (nI (restN g nm i + cntB (areR g i) nm))), (0, .ref (za E 32 0))]) [0, 2, 3] rfl ?_
      refine z_eq (lv' := [(2, .int (nI (i + 1))), (1, .int (nI (restN g nm (i + 1)))), (0, .ref (za E 32 0))]) (by simp [restN]) rfl ?_
      exact ih4 () (by omega) trivial
    · refine z_iload_n X (pc := 28) 2 dX11_restless_28 rfl rfl ?_
      refine z_aload_n X (pc := 29) 3 dX11_restless_29 rfl rfl ?_
      refine z_iload_n X (pc := 30) 1 dX11_restless_30 rfl rfl ?_
      refine z_iload_n X (pc := 31) 0 dX11_restless_31 rfl rfl ?_
      refine z_callV X (pc := 32) (rest := [.int (nI (restN g nm i + cntB (areR g i) j))]) kv_X11_areRestless (c_X11_areRestless E M g (And.left (SF.rf hg)) nc nm n hI i j (by omega) (by omega)) zk_32_0 (zc_32_0 E _) rfl rfl gw_625 (by decide) rfl rfl (Nat.le_of_ble_eq_true rfl) dX11_restless_32 (zk_i ?_)
      refine z_bif_eq X (pc := 35) (tgt := 42) dX11_restless_35 (by decide) (fun c35 => ?_) (fun c35 => ?_)
      · refine z_iconst X (pc := 42) (v := 0) dX11_restless_42 (by decide) ?_
        refine z_iadd X (pc := 43) dX11_restless_43 ?_
        refine z_top (y := (nI (restN g nm i + cntB (areR g i) j))) (Int32.add_zero _) ?_
        refine z_istore_n X (pc := 44) (lv1 := [(1, .int (nI (restN g nm i + cntB (areR g i) j))), (3, .int (nI j)), (2, .int (nI i)), (0, .ref (za E 32 0))]) dX11_restless_44 rfl (by decide) rfl ?_
        refine z_iinc X (pc := 45) (v := (nI (j + 1))) (lv1 := [(3, .int (nI (j + 1))), (1, .int (nI (restN g nm i + cntB (areR g i) j))), (2, .int (nI i)), (0, .ref (za E 32 0))]) 1 dX11_restless_45 rfl (nI_1 _) (by decide) rfl ?_
        refine z_goto X (pc := 48) (tgt := 17) dX11_restless_48 (by decide) ?_
        refine z_sub (lv' := [(3, .int (nI (j + 1))), (2, .int (nI i)), (1, .int (nI (restN g nm i + cntB (areR g i) j))), (0, .ref (za E 32 0))]) [0, 2, 1, 3] rfl ?_
        refine z_eq (lv' := [(3, .int (nI (j + 1))), (2, .int (nI i)), (1, .int (nI (restN g nm i + cntB (areR g i) (j + 1)))), (0, .ref (za E 32 0))]) (by simp [cntB, Nat.add_assoc, c12, c25, c35]) rfl ?_
        exact ih17 () (by omega) trivial
      · refine z_iconst X (pc := 38) (v := 1) dX11_restless_38 (by decide) ?_
        refine z_goto X (pc := 39) (tgt := 43) dX11_restless_39 (by decide) ?_
        refine z_iadd X (pc := 43) dX11_restless_43 ?_
        refine z_top (y := (nI (restN g nm i + cntB (areR g i) j + 1))) (nI_1 _) ?_
        refine z_istore_n X (pc := 44) (lv1 := [(1, .int (nI (restN g nm i + cntB (areR g i) j + 1))), (3, .int (nI j)), (2, .int (nI i)), (0, .ref (za E 32 0))]) dX11_restless_44 rfl (by decide) rfl ?_
        refine z_iinc X (pc := 45) (v := (nI (j + 1))) (lv1 := [(3, .int (nI (j + 1))), (1, .int (nI (restN g nm i + cntB (areR g i) j + 1))), (2, .int (nI i)), (0, .ref (za E 32 0))]) 1 dX11_restless_45 rfl (nI_1 _) (by decide) rfl ?_
        refine z_goto X (pc := 48) (tgt := 17) dX11_restless_48 (by decide) ?_
        refine z_sub (lv' := [(3, .int (nI (j + 1))), (2, .int (nI i)), (1, .int (nI (restN g nm i + cntB (areR g i) j + 1))), (0, .ref (za E 32 0))]) [0, 2, 1, 3] rfl ?_
        refine z_eq (lv' := [(3, .int (nI (j + 1))), (2, .int (nI i)), (1, .int (nI (restN g nm i + cntB (areR g i) (j + 1)))), (0, .ref (za E 32 0))]) (by simp [cntB, Nat.add_assoc, c12, c25, c35]) rfl ?_
        exact ih17 () (by omega) trivial

def rm_X11_isBalanced : Room := { frames := 0, cells := 0, slots := 0, locals := 0 }
theorem kv_X11_isBalanced : KV yX11_isBalanced RX11 cX11_isBalanced 1 (some .int) 0 := ⟨⟨gw_1109, gw_1110, gw_5, gw_1111⟩, by decide +kernel⟩
set_option maxRecDepth 100000 in
set_option maxHeartbeats 4000000 in
theorem c_X11_isBalanced (E : ZE) (M : Mem)  : Mt E yX11_isBalanced cX11_isBalanced 1 (some .int) rm_X11_isBalanced [.ref (za E 32 0)] M (PI 1 M) := by
  refine z_met (own := RX11) (lv := [(0, .ref (za E 32 0))]) (by decide) rfl (Nat.le_of_ble_eq_true rfl) rfl (fun gg X Y => ?_)
  refine z_iconst X (pc := 0) (v := 1) dX11_isBalanced_0 (by decide) ?_
  exact z_pret X Y dX11_isBalanced_1 rfl rfl

def rm_X11_meanFit : Room := { frames := 2, cells := 0, slots := 0, locals := 46 }
theorem kv_X11_meanFit : KV yX11_meanFit RX11 cX11_meanFit 3 (some .double) 0 := ⟨⟨gw_1117, gw_1118, gw_5, gw_1119⟩, by decide +kernel⟩
set_option maxRecDepth 100000 in
set_option maxHeartbeats 4000000 in
theorem c_X11_meanFit (E : ZE) (M : Mem) (g : LG) (hg : gF (M 20 0) = g) (nc nm n : Nat) (hI : Inv g nc nm n)  : Mt E yX11_meanFit cX11_meanFit 3 (some .double) rm_X11_meanFit [.ref (za E 32 0)] M (PD (meanV (fitSum g nc) (cntB (taken g) nc)) M) := by
  have hnc := hI.nc; have hnm := hI.nm; have hn := hI.c10; have hn2 := hI.m10; have hct := cntB_le (sits g) nm; have hts := taken_sits hI
  refine z_met (own := RX11) (lv := [(0, .ref (za E 32 0))]) (by decide) rfl (Nat.le_of_ble_eq_true rfl) rfl (fun gg X Y => ?_)
  refine z_iconst X (pc := 0) (v := 0) dX11_meanFit_0 (by decide) ?_
  refine z_istore_n X (pc := 1) (lv1 := [(1, .int 0), (0, .ref (za E 32 0))]) dX11_meanFit_1 rfl (by decide) rfl ?_
  refine z_iconst X (pc := 2) (v := 0) dX11_meanFit_2 (by decide) ?_
  refine z_istore_n X (pc := 3) (lv1 := [(2, .int 0), (1, .int 0), (0, .ref (za E 32 0))]) dX11_meanFit_3 rfl (by decide) rfl ?_
  refine z_sub (lv' := [(2, .int (nI 0)), (1, .int (fitSum g 0)), (0, .ref (za E 32 0))]) [0, 1, 2] rfl ?_
  refine z_loop (nc) 4 (σ := Unit) (fun i s => True) (fun i s => (M, [(2, .int (nI i)), (1, .int (fitSum g i)), (0, .ref (za E 32 0))])) ?_ 0 () (Nat.zero_le _) trivial
  intro i s hi4 hJ4 ih4
  show Z gg E M [(2, .int (nI i)), (1, .int (fitSum g i)), (0, .ref (za E 32 0))] 4 []
  refine z_iload_n X (pc := 4) 0 dX11_meanFit_4 rfl rfl ?_
  refine z_aload_n X (pc := 5) 2 dX11_meanFit_5 rfl rfl ?_
  refine z_get X (pc := 6) 0 zk_32_0 (zc_32_0 E _) rfl inlX11 (by decide) gw_138 rfl rfl dX11_meanFit_6 ?_
  refine z_bipush X (pc := 9) (v := 7) dX11_meanFit_9 (by decide) ?_
  refine z_iald X (pc := 11) (by decide) (show (7 : Int32) = nI 7 from rfl) (by decide) dX11_meanFit_11 ?_
  refine z_top (y := (nI nc)) ((SF.bk (SF.rf hg) (by decide)).trans hnc) ?_
  refine z_nicmp_ge X (pc := 12) (a := i) (b := nc) (tgt := 50) dX11_meanFit_12 (by decide) (by omega) (by omega) (fun c12 => ?_) (fun c12 => ?_)
  · obtain rfl : nc = i := by omega
    obtain ⟨kf, hkf, ekf⟩ := fitSum_rng hI (Nat.le_refl nc)
    refine z_aload_n X (pc := 50) 2 dX11_meanFit_50 rfl rfl ?_
    refine z_callV X (pc := 51) (rest := []) kv_X11_sitting (c_X11_sitting E M g (And.left (SF.rf hg)) nm hnm (by omega) (fun m hm => (hI.nor12 hm).le (by omega))) zk_32_0 (zc_32_0 E _) rfl rfl gw_474 (by decide) rfl rfl (Nat.le_of_ble_eq_true rfl) dX11_meanFit_51 (zk_i ?_)
    refine z_nif_ne X (pc := 54) (tgt := 61) dX11_meanFit_54 (by decide) (by omega) (fun c54 => ?_) (fun c54 => ?_)
    · refine z_iload_n X (pc := 61) 1 dX11_meanFit_61 rfl rfl ?_
      refine z_i2d X (pc := 62) dX11_meanFit_62 ?_
      refine z_aload_n X (pc := 63) 2 dX11_meanFit_63 rfl rfl ?_
      refine z_callV X (pc := 64) (rest := [.double (FP.i2d (fitSum g nc))]) kv_X11_sitting (c_X11_sitting E M g (And.left (SF.rf hg)) nm hnm (by omega) (fun m hm => (hI.nor12 hm).le (by omega))) zk_32_0 (zc_32_0 E _) rfl rfl gw_474 (by decide) rfl rfl (Nat.le_of_ble_eq_true rfl) dX11_meanFit_64 (zk_i ?_)
      refine z_i2d X (pc := 67) dX11_meanFit_67 ?_
      refine z_ddiv X (pc := 68) dX11_meanFit_68 (by rw [ekf]; exact mean_num kf (by omega) _ (by omega) (by omega)) ?_
      exact z_dret X Y dX11_meanFit_69 ⟨by rw [hts]; simp [meanV, c54], rfl⟩
    · refine z_dconst0 X (pc := 57) dX11_meanFit_57 ?_
      refine z_goto X (pc := 58) (tgt := 69) dX11_meanFit_58 (by decide) ?_
      exact z_dret X Y dX11_meanFit_69 ⟨by rw [hts]; simp [meanV, c54], rfl⟩
  · refine z_iload_n X (pc := 15) 1 dX11_meanFit_15 rfl rfl ?_
    refine z_aload_n X (pc := 16) 2 dX11_meanFit_16 rfl rfl ?_
    refine z_iload_n X (pc := 17) 0 dX11_meanFit_17 rfl rfl ?_
    refine z_bipush X (pc := 18) (v := 6) dX11_meanFit_18 (by decide) ?_
    refine z_callV X (pc := 20) (rest := [.int (fitSum g i)]) kv_X11_ofChair (c_X11_ofChair E M g (And.left (SF.rf hg)) i 6 (show i < 10 by omega) (by decide)) zk_32_0 (zc_32_0 E _) rfl rfl gw_323 (by decide) rfl rfl (Nat.le_of_ble_eq_true rfl) dX11_meanFit_20 (zk_i ?_)
    rcases (show nOr (g 6 i) 10 from ((hI.nor6 (show i < nc by omega)).le (by omega))) with hp23 | ⟨k23, hk23, hp23⟩
    · refine z_top (y := ((-1))) hp23 ?_
      refine z_if_ge X (pc := 23) (tgt := 30) dX11_meanFit_23 (by decide) (fun c23 => ?_) (fun c23 => ?_)
      · exact absurd c23 (by decide)
      · refine z_iconst X (pc := 26) (v := 0) dX11_meanFit_26 (by decide) ?_
        refine z_goto X (pc := 27) (tgt := 42) dX11_meanFit_27 (by decide) ?_
        refine z_iadd X (pc := 42) dX11_meanFit_42 ?_
        refine z_istore_n X (pc := 43) (lv1 := [(1, .int ((fitSum g i) + 0)), (2, .int (nI i)), (0, .ref (za E 32 0))]) dX11_meanFit_43 rfl (by decide) rfl ?_
        refine z_iinc X (pc := 44) (v := (nI (i + 1))) (lv1 := [(2, .int (nI (i + 1))), (1, .int ((fitSum g i) + 0)), (0, .ref (za E 32 0))]) 1 dX11_meanFit_44 rfl (nI_1 _) (by decide) rfl ?_
        refine z_goto X (pc := 47) (tgt := 4) dX11_meanFit_47 (by decide) ?_
        refine z_sub (lv' := [(2, .int (nI (i + 1))), (1, .int ((fitSum g i) + 0)), (0, .ref (za E 32 0))]) [0, 1, 2] rfl ?_
        refine z_eq (lv' := [(2, .int (nI (i + 1))), (1, .int (fitSum g (i + 1))), (0, .ref (za E 32 0))]) (by simp [fitSum, taken, who, c12, hp23, c23]) rfl ?_
        exact ih4 () (by omega) trivial
    · refine z_top (y := (nI k23)) hp23 ?_
      refine z_if_ge X (pc := 23) (tgt := 30) dX11_meanFit_23 (by decide) (fun c23 => ?_) (fun c23 => ?_)
      · refine z_aload_n X (pc := 30) 2 dX11_meanFit_30 rfl rfl ?_
        refine z_iload_n X (pc := 31) 0 dX11_meanFit_31 rfl rfl ?_
        refine z_aload_n X (pc := 32) 2 dX11_meanFit_32 rfl rfl ?_
        refine z_iload_n X (pc := 33) 0 dX11_meanFit_33 rfl rfl ?_
        refine z_bipush X (pc := 34) (v := 6) dX11_meanFit_34 (by decide) ?_
        refine z_callV X (pc := 36) (rest := [.int (nI i), .ref (za E 32 0), .int (fitSum g i)]) kv_X11_ofChair (c_X11_ofChair E M g (And.left (SF.rf hg)) i 6 (show i < 10 by omega) (by decide)) zk_32_0 (zc_32_0 E _) rfl rfl gw_323 (by decide) rfl rfl (Nat.le_of_ble_eq_true rfl) dX11_meanFit_36 (zk_i ?_)
        refine z_top (y := (nI k23)) hp23 ?_
        refine z_callV X (pc := 39) (rest := [.int (fitSum g i)]) kv_X11_fitOf (c_X11_fitOf E M g (And.left (SF.rf hg)) i k23 (show i < 10 by omega) (show k23 < 10 by omega)) zk_32_0 (zc_32_0 E _) rfl rfl gw_382 (by decide) rfl rfl (Nat.le_of_ble_eq_true rfl) dX11_meanFit_39 (zk_i ?_)
        refine z_iadd X (pc := 42) dX11_meanFit_42 ?_
        refine z_istore_n X (pc := 43) (lv1 := [(1, .int ((fitSum g i) + (fit g i k23))), (2, .int (nI i)), (0, .ref (za E 32 0))]) dX11_meanFit_43 rfl (by decide) rfl ?_
        refine z_iinc X (pc := 44) (v := (nI (i + 1))) (lv1 := [(2, .int (nI (i + 1))), (1, .int ((fitSum g i) + (fit g i k23))), (0, .ref (za E 32 0))]) 1 dX11_meanFit_44 rfl (nI_1 _) (by decide) rfl ?_
        refine z_goto X (pc := 47) (tgt := 4) dX11_meanFit_47 (by decide) ?_
        refine z_sub (lv' := [(2, .int (nI (i + 1))), (1, .int ((fitSum g i) + (fit g i k23))), (0, .ref (za E 32 0))]) [0, 1, 2] rfl ?_
        refine z_eq (lv' := [(2, .int (nI (i + 1))), (1, .int (fitSum g (i + 1))), (0, .ref (za E 32 0))]) (by simp [fitSum, taken, who, c12, hp23, nI_ne_m1 (show k23 < 2 ^ 31 by omega), nI_clamp (show k23 < 2 ^ 31 by omega), c23]) rfl ?_
        exact ih4 () (by omega) trivial
      · exact absurd (nI_pos' (by omega)) c23

def rm_X11_fallenShare : Room := { frames := 3, cells := 0, slots := 0, locals := 65 }
theorem kv_X11_fallenShare : KV yX11_fallenShare RX11 cX11_fallenShare 1 (some .float) 0 := ⟨⟨gw_1125, gw_1126, gw_5, gw_1127⟩, by decide +kernel⟩
set_option maxRecDepth 100000 in
set_option maxHeartbeats 4000000 in
theorem c_X11_fallenShare (E : ZE) (M : Mem) (g : LG) (hg : gF (M 20 0) = g) (nc nm n : Nat) (hI : Inv g nc nm n)  : Mt E yX11_fallenShare cX11_fallenShare 1 (some .float) rm_X11_fallenShare [.ref (za E 32 0)] M (PF (shareV (cntB (fell g) nc) nc) M) := by
  have hnc := hI.nc; have hnm := hI.nm; have hn := hI.c10; have hn2 := hI.m10; have hct := cntB_le (fell g) nc
  refine z_met (own := RX11) (lv := [(0, .ref (za E 32 0))]) (by decide) rfl (Nat.le_of_ble_eq_true rfl) rfl (fun gg X Y => ?_)
  refine z_aload_n X (pc := 0) 0 dX11_fallenShare_0 rfl rfl ?_
  refine z_get X (pc := 1) 0 zk_32_0 (zc_32_0 E _) rfl inlX11 (by decide) gw_138 rfl rfl dX11_fallenShare_1 ?_
  refine z_bipush X (pc := 4) (v := 7) dX11_fallenShare_4 (by decide) ?_
  refine z_iald X (pc := 6) (by decide) (show (7 : Int32) = nI 7 from rfl) (by decide) dX11_fallenShare_6 ?_
  refine z_top (y := (nI nc)) ((SF.bk (SF.rf hg) (by decide)).trans hnc) ?_
  refine z_nif_ne X (pc := 7) (tgt := 14) dX11_fallenShare_7 (by decide) (by omega) (fun c7 => ?_) (fun c7 => ?_)
  · refine z_aload_n X (pc := 14) 0 dX11_fallenShare_14 rfl rfl ?_
    refine z_callV X (pc := 15) (rest := []) kv_X11_fallen (c_X11_fallen E M g (And.left (SF.rf hg)) nc hnc (by omega)) zk_32_0 (zc_32_0 E _) rfl rfl gw_454 (by decide) rfl rfl (Nat.le_of_ble_eq_true rfl) dX11_fallenShare_15 (zk_i ?_)
    refine z_i2f X (pc := 18) dX11_fallenShare_18 ?_
    refine z_aload_n X (pc := 19) 0 dX11_fallenShare_19 rfl rfl ?_
    refine z_get X (pc := 20) 0 zk_32_0 (zc_32_0 E _) rfl inlX11 (by decide) gw_138 rfl rfl dX11_fallenShare_20 ?_
    refine z_bipush X (pc := 23) (v := 7) dX11_fallenShare_23 (by decide) ?_
    refine z_iald X (pc := 25) (by decide) (show (7 : Int32) = nI 7 from rfl) (by decide) dX11_fallenShare_25 ?_
    refine z_top (y := (nI nc)) ((SF.bk (SF.rf hg) (by decide)).trans hnc) ?_
    refine z_i2f X (pc := 26) dX11_fallenShare_26 ?_
    refine z_fdiv X (pc := 27) dX11_fallenShare_27 (share_num _ (by omega) _ (by omega) (by omega)) ?_
    exact z_fret X Y dX11_fallenShare_28 ⟨by simp [shareV, c7], rfl⟩
  · refine z_fconst0 X (pc := 10) dX11_fallenShare_10 ?_
    refine z_goto X (pc := 11) (tgt := 28) dX11_fallenShare_11 (by decide) ?_
    exact z_fret X Y dX11_fallenShare_28 ⟨by simp [shareV, c7], rfl⟩

def rm_X11_reason : Room := { frames := 1, cells := 0, slots := 0, locals := 22 }
theorem kv_X11_reason : KV yX11_reason RX11 cX11_reason 3 (some .int) 2 := ⟨⟨gw_1067, gw_1068, gw_5, gw_1069⟩, by decide +kernel⟩
set_option maxRecDepth 100000 in
set_option maxHeartbeats 4000000 in
theorem c_X11_reason (E : ZE) (M : Mem) (rs : Rs) (hR : RSm M rs) (x d : Int32) : Mt E yX11_reason cX11_reason 3 (some .int) rm_X11_reason [.ref (za E 32 0), .int x, .int d] M (PI (aReason rs x d) M) := by
  have hl0 := hR.2.1
  refine z_met (own := RX11) (lv := [(0, .ref (za E 32 0)), (1, .int x), (2, .int d)]) (by decide) rfl (Nat.le_of_ble_eq_true rfl) rfl (fun gg X Y => ?_)
  refine z_iload_n X (pc := 0) 1 dX11_reason_0 rfl rfl ?_
  refine z_iconst X (pc := 1) (v := 0) dX11_reason_1 (by decide) ?_
  refine z_iconst X (pc := 2) (v := 2) dX11_reason_2 (by decide) ?_
  refine z_callS X (pc := 3) (rest := []) ks_X11_isBetween (c_X11_isBetween E M x 0 2) gw_240 (by decide) rfl rfl (Nat.le_of_ble_eq_true rfl) dX11_reason_3 (zk_i ?_)
  refine z_bif_ne X (pc := 6) (tgt := 13) dX11_reason_6 (by decide) (fun c6 => ?_) (fun c6 => ?_)
  · obtain ⟨k, -, hk, rfl⟩ := inB_rng (lo := 0) (hi := 2) c6 (by decide) (by decide)
    refine z_iload_n X (pc := 13) 1 dX11_reason_13 rfl rfl ?_
    refine z_aload_n X (pc := 14) 0 dX11_reason_14 rfl rfl ?_
    refine z_get X (pc := 15) 9 zk_32_0 (zc_32_0 E _) rfl inlX11 (by decide) gw_247 rfl rfl dX11_reason_15 ?_
    refine z_top (y := (nI rs.length)) hR.1 ?_
    refine z_nicmp_lt X (pc := 18) (a := k) (b := rs.length) (tgt := 27) dX11_reason_18 (by decide) (by omega) (by omega) (fun c18 => ?_) (fun c18 => ?_)
    · refine z_iload_n X (pc := 27) 2 dX11_reason_27 rfl rfl ?_
      refine z_if_eq X (pc := 28) (tgt := 40) dX11_reason_28 (by decide) (fun c28 => ?_) (fun c28 => ?_)
      · refine z_aload_n X (pc := 40) 0 dX11_reason_40 rfl rfl ?_
        refine z_get X (pc := 41) 5 zk_32_0 (zc_32_0 E _) rfl inlX11 (by decide) gw_144 rfl rfl dX11_reason_41 ?_
        refine z_iload_n X (pc := 44) 1 dX11_reason_44 rfl rfl ?_
        refine z_iald X (pc := 45) (by decide) rfl (show k < zn 32 1 by (first | exact (show k < 10 by omega) | exact (show k < 3 by omega))) dX11_reason_45 ?_
        refine z_top (y := ((rs.getD k (0, 0)).1)) (hR.2.2 k c18).1 ?_
        exact z_pret X Y dX11_reason_46 (by rw [reason_at (by omega) c18 (by omega)]; simp [c28]) rfl
      · refine z_aload_n X (pc := 31) 0 dX11_reason_31 rfl rfl ?_
        refine z_get X (pc := 32) 6 zk_32_0 (zc_32_0 E _) rfl inlX11 (by decide) gw_145 rfl rfl dX11_reason_32 ?_
        refine z_iload_n X (pc := 35) 1 dX11_reason_35 rfl rfl ?_
        refine z_iald X (pc := 36) (by decide) rfl (show k < zn 32 2 by (first | exact (show k < 10 by omega) | exact (show k < 3 by omega))) dX11_reason_36 ?_
        refine z_top (y := ((rs.getD k (0, 0)).2)) (hR.2.2 k c18).2 ?_
        refine z_goto X (pc := 37) (tgt := 46) dX11_reason_37 (by decide) ?_
        exact z_pret X Y dX11_reason_46 (by rw [reason_at (by omega) c18 (by omega)]; simp [c28]) rfl
    · refine z_sipush X (pc := 21) (v := (-1015)) dX11_reason_21 (by decide) ?_
      refine z_goto X (pc := 24) (tgt := 46) dX11_reason_24 (by decide) ?_
      exact z_pret X Y dX11_reason_46 (reason_no (by omega) (by omega) (by omega)).symm rfl
  · refine z_sipush X (pc := 9) (v := (-1012)) dX11_reason_9 (by decide) ?_
    exact z_pret X Y dX11_reason_12 (by simp [aReason, c6]) rfl

def rm_X11_account : Room := { frames := 3, cells := 0, slots := 0, locals := 65 }
theorem kv_X11_account : KV yX11_account RX11 cX11_account 2 (some .int) 1 := ⟨⟨gw_1085, gw_1086, gw_5, gw_1087⟩, by decide +kernel⟩
set_option maxRecDepth 100000 in
set_option maxHeartbeats 4000000 in
theorem c_X11_account (E : ZE) (M : Mem) (g : LG) (hg : gF (M 20 0) = g) (nc nm n : Nat) (hI : Inv g nc nm n) (hl : List LG) (hH : HM M hl) (t : List Int32) (hT : TM M t) (q : Int32) : Mt E yX11_account cX11_account 2 (some .int) rm_X11_account [.ref (za E 32 0), .int q] M (PI (aAccount g t hl.length q) M) := by
  have hnc := hI.nc; have hnm := hI.nm; have hn := hI.c10; have hn2 := hI.m10
  refine z_met (own := RX11) (lv := [(0, .ref (za E 32 0)), (1, .int q)]) (by decide) rfl (Nat.le_of_ble_eq_true rfl) rfl (fun gg X Y => ?_)
  refine z_iload_n X (pc := 0) 1 dX11_account_0 rfl rfl ?_
  by_cases hs : (q).toInt < 0 ∨ (13 : Int) < (q).toInt
  · have e0 : ¬ q = 0 := by intro h; rw [h] at hs; revert hs; decide
    have e1 : ¬ q = 1 := by intro h; rw [h] at hs; revert hs; decide
    have e2 : ¬ q = 2 := by intro h; rw [h] at hs; revert hs; decide
    have e3 : ¬ q = 3 := by intro h; rw [h] at hs; revert hs; decide
    have e4 : ¬ q = 4 := by intro h; rw [h] at hs; revert hs; decide
    have e5 : ¬ q = 5 := by intro h; rw [h] at hs; revert hs; decide
    have e6 : ¬ q = 6 := by intro h; rw [h] at hs; revert hs; decide
    have e7 : ¬ q = 7 := by intro h; rw [h] at hs; revert hs; decide
    have e8 : ¬ q = 8 := by intro h; rw [h] at hs; revert hs; decide
    have e9 : ¬ q = 9 := by intro h; rw [h] at hs; revert hs; decide
    have e10 : ¬ q = 10 := by intro h; rw [h] at hs; revert hs; decide
    have e11 : ¬ q = 11 := by intro h; rw [h] at hs; revert hs; decide
    have e12 : ¬ q = 12 := by intro h; rw [h] at hs; revert hs; decide
    have e13 : ¬ q = 13 := by intro h; rw [h] at hs; revert hs; decide
    refine z_tableOut X (pc := 1) (tgt := 120) dX11_account_1 hs (by decide) ?_
    refine z_iload_n X (pc := 120) 1 dX11_account_120 rfl rfl ?_
    refine z_bipush X (pc := 121) (v := 6) dX11_account_121 (by decide) ?_
    refine z_bipush X (pc := 123) (v := 11) dX11_account_123 (by decide) ?_
    refine z_callS X (pc := 125) (rest := []) ks_X11_isBetween (c_X11_isBetween E M q 6 11) gw_240 (by decide) rfl rfl (Nat.le_of_ble_eq_true rfl) dX11_account_125 (zk_i ?_)
    refine z_bif_eq X (pc := 128) (tgt := 142) dX11_account_128 (by decide) (fun c128 => ?_) (fun c128 => ?_)
    · refine z_sipush X (pc := 142) (v := (-1012)) dX11_account_142 (by decide) ?_
      exact z_pret X Y dX11_account_145 (by simp [aAccount, nSit, hI.cNe, hI.mNe, hnc, hnm, e0, e1, e2, e3, e4, e5, e6, e7, e8, e9, e10, e11, e12, e13]) rfl
    · exact absurd c128 (acc_out (by simpa using hs))
  · obtain ⟨j, hj, hx⟩ := sw_in (x := q) 0 13 (by decide) (by simpa using hs)
    rcases (show j = 0 ∨ j = 1 ∨ j = 2 ∨ j = 3 ∨ j = 4 ∨ j = 5 ∨ j = 6 ∨ j = 7 ∨ j = 8 ∨ j = 9 ∨ j = 10 ∨ j = 11 ∨ j = 12 ∨ j = 13 by omega) with rfl | rfl | rfl | rfl | rfl | rfl | rfl | rfl | rfl | rfl | rfl | rfl | rfl | rfl
    · replace hx : q = 0 := hx
      refine z_top hx ?_
      refine z_tableIn X (pc := 1) (off := 71) (tgt := 72) dX11_account_1 (by decide) (by decide) (by rfl) (by decide) ?_
      refine z_aload_n X (pc := 72) 0 dX11_account_72 rfl rfl ?_
      refine z_get X (pc := 73) 0 zk_32_0 (zc_32_0 E _) rfl inlX11 (by decide) gw_138 rfl rfl dX11_account_73 ?_
      refine z_bipush X (pc := 76) (v := 7) dX11_account_76 (by decide) ?_
      refine z_iald X (pc := 78) (by decide) (show (7 : Int32) = nI 7 from rfl) (by decide) dX11_account_78 ?_
      refine z_top (y := (nI nc)) ((SF.bk (SF.rf hg) (by decide)).trans hnc) ?_
      exact z_pret X Y dX11_account_79 (by simp [aAccount, nSit, hI.cNe, hI.mNe, hnc, hnm, hx]) rfl
    · replace hx : q = 1 := hx
      refine z_top hx ?_
      refine z_tableIn X (pc := 1) (off := 79) (tgt := 80) dX11_account_1 (by decide) (by decide) (by rfl) (by decide) ?_
      refine z_aload_n X (pc := 80) 0 dX11_account_80 rfl rfl ?_
      refine z_get X (pc := 81) 0 zk_32_0 (zc_32_0 E _) rfl inlX11 (by decide) gw_138 rfl rfl dX11_account_81 ?_
      refine z_bipush X (pc := 84) (v := 8) dX11_account_84 (by decide) ?_
      refine z_iald X (pc := 86) (by decide) (show (8 : Int32) = nI 8 from rfl) (by decide) dX11_account_86 ?_
      refine z_top (y := (nI nm)) ((SF.bk (SF.rf hg) (by decide)).trans hnm) ?_
      exact z_pret X Y dX11_account_87 (by simp [aAccount, nSit, hI.cNe, hI.mNe, hnc, hnm, hx]) rfl
    · replace hx : q = 2 := hx
      refine z_top hx ?_
      refine z_tableIn X (pc := 1) (off := 87) (tgt := 88) dX11_account_1 (by decide) (by decide) (by rfl) (by decide) ?_
      refine z_aload_n X (pc := 88) 0 dX11_account_88 rfl rfl ?_
      refine z_callV X (pc := 89) (rest := []) kv_X11_sitting (c_X11_sitting E M g (And.left (SF.rf hg)) nm hnm (by omega) (fun m hm => (hI.nor12 hm).le (by omega))) zk_32_0 (zc_32_0 E _) rfl rfl gw_474 (by decide) rfl rfl (Nat.le_of_ble_eq_true rfl) dX11_account_89 (zk_i ?_)
      exact z_pret X Y dX11_account_92 (by simp [aAccount, nSit, hI.cNe, hI.mNe, hnc, hnm, hx]) rfl
    · replace hx : q = 3 := hx
      refine z_top hx ?_
      refine z_tableIn X (pc := 1) (off := 92) (tgt := 93) dX11_account_1 (by decide) (by decide) (by rfl) (by decide) ?_
      refine z_aload_n X (pc := 93) 0 dX11_account_93 rfl rfl ?_
      refine z_callV X (pc := 94) (rest := []) kv_X11_fallen (c_X11_fallen E M g (And.left (SF.rf hg)) nc hnc (by omega)) zk_32_0 (zc_32_0 E _) rfl rfl gw_454 (by decide) rfl rfl (Nat.le_of_ble_eq_true rfl) dX11_account_94 (zk_i ?_)
      exact z_pret X Y dX11_account_97 (by simp [aAccount, nSit, hI.cNe, hI.mNe, hnc, hnm, hx]) rfl
    · replace hx : q = 4 := hx
      refine z_top hx ?_
      refine z_tableIn X (pc := 1) (off := 97) (tgt := 98) dX11_account_1 (by decide) (by decide) (by rfl) (by decide) ?_
      refine z_aload_n X (pc := 98) 0 dX11_account_98 rfl rfl ?_
      refine z_callV X (pc := 99) (rest := []) kv_X11_allCoins (c_X11_allCoins E M g (And.left (SF.rf hg)) nm hnm (by omega)) zk_32_0 (zc_32_0 E _) rfl rfl gw_1088 (by decide) rfl rfl (Nat.le_of_ble_eq_true rfl) dX11_account_99 (zk_i ?_)
      exact z_pret X Y dX11_account_102 (by simp [aAccount, nSit, hI.cNe, hI.mNe, hnc, hnm, hx]) rfl
    · replace hx : q = 5 := hx
      refine z_top hx ?_
      refine z_tableIn X (pc := 1) (off := 102) (tgt := 103) dX11_account_1 (by decide) (by decide) (by rfl) (by decide) ?_
      refine z_aload_n X (pc := 103) 0 dX11_account_103 rfl rfl ?_
      refine z_get X (pc := 104) 0 zk_32_0 (zc_32_0 E _) rfl inlX11 (by decide) gw_138 rfl rfl dX11_account_104 ?_
      refine z_iconst X (pc := 107) (v := 0) dX11_account_107 (by decide) ?_
      refine z_iald X (pc := 108) (by decide) (show (0 : Int32) = nI 0 from rfl) (by decide) dX11_account_108 ?_
      refine z_top (y := (g 14 0)) (SF.bk (SF.rf hg) (by decide)) ?_
      exact z_pret X Y dX11_account_109 (by simp [aAccount, nSit, hI.cNe, hI.mNe, hnc, hnm, hx]) rfl
    · replace hx : q = 6 := hx
      refine z_top hx ?_
      refine z_tableIn X (pc := 1) (off := 119) (tgt := 120) dX11_account_1 (by decide) (by decide) (by rfl) (by decide) ?_
      refine z_iload_n X (pc := 120) 1 dX11_account_120 rfl rfl ?_
      refine z_top (y := 6) hx ?_
      refine z_bipush X (pc := 121) (v := 6) dX11_account_121 (by decide) ?_
      refine z_bipush X (pc := 123) (v := 11) dX11_account_123 (by decide) ?_
      refine z_callS X (pc := 125) (rest := []) ks_X11_isBetween (c_X11_isBetween E M 6 6 11) gw_240 (by decide) rfl rfl (Nat.le_of_ble_eq_true rfl) dX11_account_125 (zk_i ?_)
      refine z_bif_eq X (pc := 128) (tgt := 142) dX11_account_128 (by decide) (fun c128 => ?_) (fun c128 => ?_)
      · exact absurd c128 (by decide)
      · refine z_aload_n X (pc := 131) 0 dX11_account_131 rfl rfl ?_
        refine z_get X (pc := 132) 0 zk_32_0 (zc_32_0 E _) rfl inlX11 (by decide) gw_138 rfl rfl dX11_account_132 ?_
        refine z_iload_n X (pc := 135) 1 dX11_account_135 rfl rfl ?_
        refine z_top (y := 6) hx ?_
        refine z_iconst X (pc := 136) (v := 5) dX11_account_136 (by decide) ?_
        refine z_isub X (pc := 137) dX11_account_137 ?_
        refine z_top (y := 1) (by decide) ?_
        refine z_iald X (pc := 138) (by decide) (show (1 : Int32) = nI 1 from rfl) (by decide) dX11_account_138 ?_
        refine z_top (y := (g 14 1)) (SF.bk (SF.rf hg) (by decide)) ?_
        refine z_goto X (pc := 139) (tgt := 145) dX11_account_139 (by decide) ?_
        exact z_pret X Y dX11_account_145 (by simp [aAccount, nSit, hI.cNe, hI.mNe, hnc, hnm, hx]) rfl
    · replace hx : q = 7 := hx
      refine z_top hx ?_
      refine z_tableIn X (pc := 1) (off := 119) (tgt := 120) dX11_account_1 (by decide) (by decide) (by rfl) (by decide) ?_
      refine z_iload_n X (pc := 120) 1 dX11_account_120 rfl rfl ?_
      refine z_top (y := 7) hx ?_
      refine z_bipush X (pc := 121) (v := 6) dX11_account_121 (by decide) ?_
      refine z_bipush X (pc := 123) (v := 11) dX11_account_123 (by decide) ?_
      refine z_callS X (pc := 125) (rest := []) ks_X11_isBetween (c_X11_isBetween E M 7 6 11) gw_240 (by decide) rfl rfl (Nat.le_of_ble_eq_true rfl) dX11_account_125 (zk_i ?_)
      refine z_bif_eq X (pc := 128) (tgt := 142) dX11_account_128 (by decide) (fun c128 => ?_) (fun c128 => ?_)
      · exact absurd c128 (by decide)
      · refine z_aload_n X (pc := 131) 0 dX11_account_131 rfl rfl ?_
        refine z_get X (pc := 132) 0 zk_32_0 (zc_32_0 E _) rfl inlX11 (by decide) gw_138 rfl rfl dX11_account_132 ?_
        refine z_iload_n X (pc := 135) 1 dX11_account_135 rfl rfl ?_
        refine z_top (y := 7) hx ?_
        refine z_iconst X (pc := 136) (v := 5) dX11_account_136 (by decide) ?_
        refine z_isub X (pc := 137) dX11_account_137 ?_
        refine z_top (y := 2) (by decide) ?_
        refine z_iald X (pc := 138) (by decide) (show (2 : Int32) = nI 2 from rfl) (by decide) dX11_account_138 ?_
        refine z_top (y := (g 14 2)) (SF.bk (SF.rf hg) (by decide)) ?_
        refine z_goto X (pc := 139) (tgt := 145) dX11_account_139 (by decide) ?_
        exact z_pret X Y dX11_account_145 (by simp [aAccount, nSit, hI.cNe, hI.mNe, hnc, hnm, hx]) rfl
    · replace hx : q = 8 := hx
      refine z_top hx ?_
      refine z_tableIn X (pc := 1) (off := 119) (tgt := 120) dX11_account_1 (by decide) (by decide) (by rfl) (by decide) ?_
      refine z_iload_n X (pc := 120) 1 dX11_account_120 rfl rfl ?_
      refine z_top (y := 8) hx ?_
      refine z_bipush X (pc := 121) (v := 6) dX11_account_121 (by decide) ?_
      refine z_bipush X (pc := 123) (v := 11) dX11_account_123 (by decide) ?_
      refine z_callS X (pc := 125) (rest := []) ks_X11_isBetween (c_X11_isBetween E M 8 6 11) gw_240 (by decide) rfl rfl (Nat.le_of_ble_eq_true rfl) dX11_account_125 (zk_i ?_)
      refine z_bif_eq X (pc := 128) (tgt := 142) dX11_account_128 (by decide) (fun c128 => ?_) (fun c128 => ?_)
      · exact absurd c128 (by decide)
      · refine z_aload_n X (pc := 131) 0 dX11_account_131 rfl rfl ?_
        refine z_get X (pc := 132) 0 zk_32_0 (zc_32_0 E _) rfl inlX11 (by decide) gw_138 rfl rfl dX11_account_132 ?_
        refine z_iload_n X (pc := 135) 1 dX11_account_135 rfl rfl ?_
        refine z_top (y := 8) hx ?_
        refine z_iconst X (pc := 136) (v := 5) dX11_account_136 (by decide) ?_
        refine z_isub X (pc := 137) dX11_account_137 ?_
        refine z_top (y := 3) (by decide) ?_
        refine z_iald X (pc := 138) (by decide) (show (3 : Int32) = nI 3 from rfl) (by decide) dX11_account_138 ?_
        refine z_top (y := (g 14 3)) (SF.bk (SF.rf hg) (by decide)) ?_
        refine z_goto X (pc := 139) (tgt := 145) dX11_account_139 (by decide) ?_
        exact z_pret X Y dX11_account_145 (by simp [aAccount, nSit, hI.cNe, hI.mNe, hnc, hnm, hx]) rfl
    · replace hx : q = 9 := hx
      refine z_top hx ?_
      refine z_tableIn X (pc := 1) (off := 119) (tgt := 120) dX11_account_1 (by decide) (by decide) (by rfl) (by decide) ?_
      refine z_iload_n X (pc := 120) 1 dX11_account_120 rfl rfl ?_
      refine z_top (y := 9) hx ?_
      refine z_bipush X (pc := 121) (v := 6) dX11_account_121 (by decide) ?_
      refine z_bipush X (pc := 123) (v := 11) dX11_account_123 (by decide) ?_
      refine z_callS X (pc := 125) (rest := []) ks_X11_isBetween (c_X11_isBetween E M 9 6 11) gw_240 (by decide) rfl rfl (Nat.le_of_ble_eq_true rfl) dX11_account_125 (zk_i ?_)
      refine z_bif_eq X (pc := 128) (tgt := 142) dX11_account_128 (by decide) (fun c128 => ?_) (fun c128 => ?_)
      · exact absurd c128 (by decide)
      · refine z_aload_n X (pc := 131) 0 dX11_account_131 rfl rfl ?_
        refine z_get X (pc := 132) 0 zk_32_0 (zc_32_0 E _) rfl inlX11 (by decide) gw_138 rfl rfl dX11_account_132 ?_
        refine z_iload_n X (pc := 135) 1 dX11_account_135 rfl rfl ?_
        refine z_top (y := 9) hx ?_
        refine z_iconst X (pc := 136) (v := 5) dX11_account_136 (by decide) ?_
        refine z_isub X (pc := 137) dX11_account_137 ?_
        refine z_top (y := 4) (by decide) ?_
        refine z_iald X (pc := 138) (by decide) (show (4 : Int32) = nI 4 from rfl) (by decide) dX11_account_138 ?_
        refine z_top (y := (g 14 4)) (SF.bk (SF.rf hg) (by decide)) ?_
        refine z_goto X (pc := 139) (tgt := 145) dX11_account_139 (by decide) ?_
        exact z_pret X Y dX11_account_145 (by simp [aAccount, nSit, hI.cNe, hI.mNe, hnc, hnm, hx]) rfl
    · replace hx : q = 10 := hx
      refine z_top hx ?_
      refine z_tableIn X (pc := 1) (off := 119) (tgt := 120) dX11_account_1 (by decide) (by decide) (by rfl) (by decide) ?_
      refine z_iload_n X (pc := 120) 1 dX11_account_120 rfl rfl ?_
      refine z_top (y := 10) hx ?_
      refine z_bipush X (pc := 121) (v := 6) dX11_account_121 (by decide) ?_
      refine z_bipush X (pc := 123) (v := 11) dX11_account_123 (by decide) ?_
      refine z_callS X (pc := 125) (rest := []) ks_X11_isBetween (c_X11_isBetween E M 10 6 11) gw_240 (by decide) rfl rfl (Nat.le_of_ble_eq_true rfl) dX11_account_125 (zk_i ?_)
      refine z_bif_eq X (pc := 128) (tgt := 142) dX11_account_128 (by decide) (fun c128 => ?_) (fun c128 => ?_)
      · exact absurd c128 (by decide)
      · refine z_aload_n X (pc := 131) 0 dX11_account_131 rfl rfl ?_
        refine z_get X (pc := 132) 0 zk_32_0 (zc_32_0 E _) rfl inlX11 (by decide) gw_138 rfl rfl dX11_account_132 ?_
        refine z_iload_n X (pc := 135) 1 dX11_account_135 rfl rfl ?_
        refine z_top (y := 10) hx ?_
        refine z_iconst X (pc := 136) (v := 5) dX11_account_136 (by decide) ?_
        refine z_isub X (pc := 137) dX11_account_137 ?_
        refine z_top (y := 5) (by decide) ?_
        refine z_iald X (pc := 138) (by decide) (show (5 : Int32) = nI 5 from rfl) (by decide) dX11_account_138 ?_
        refine z_top (y := (g 14 5)) (SF.bk (SF.rf hg) (by decide)) ?_
        refine z_goto X (pc := 139) (tgt := 145) dX11_account_139 (by decide) ?_
        exact z_pret X Y dX11_account_145 (by simp [aAccount, nSit, hI.cNe, hI.mNe, hnc, hnm, hx]) rfl
    · replace hx : q = 11 := hx
      refine z_top hx ?_
      refine z_tableIn X (pc := 1) (off := 119) (tgt := 120) dX11_account_1 (by decide) (by decide) (by rfl) (by decide) ?_
      refine z_iload_n X (pc := 120) 1 dX11_account_120 rfl rfl ?_
      refine z_top (y := 11) hx ?_
      refine z_bipush X (pc := 121) (v := 6) dX11_account_121 (by decide) ?_
      refine z_bipush X (pc := 123) (v := 11) dX11_account_123 (by decide) ?_
      refine z_callS X (pc := 125) (rest := []) ks_X11_isBetween (c_X11_isBetween E M 11 6 11) gw_240 (by decide) rfl rfl (Nat.le_of_ble_eq_true rfl) dX11_account_125 (zk_i ?_)
      refine z_bif_eq X (pc := 128) (tgt := 142) dX11_account_128 (by decide) (fun c128 => ?_) (fun c128 => ?_)
      · exact absurd c128 (by decide)
      · refine z_aload_n X (pc := 131) 0 dX11_account_131 rfl rfl ?_
        refine z_get X (pc := 132) 0 zk_32_0 (zc_32_0 E _) rfl inlX11 (by decide) gw_138 rfl rfl dX11_account_132 ?_
        refine z_iload_n X (pc := 135) 1 dX11_account_135 rfl rfl ?_
        refine z_top (y := 11) hx ?_
        refine z_iconst X (pc := 136) (v := 5) dX11_account_136 (by decide) ?_
        refine z_isub X (pc := 137) dX11_account_137 ?_
        refine z_top (y := 6) (by decide) ?_
        refine z_iald X (pc := 138) (by decide) (show (6 : Int32) = nI 6 from rfl) (by decide) dX11_account_138 ?_
        refine z_top (y := (g 14 6)) (SF.bk (SF.rf hg) (by decide)) ?_
        refine z_goto X (pc := 139) (tgt := 145) dX11_account_139 (by decide) ?_
        exact z_pret X Y dX11_account_145 (by simp [aAccount, nSit, hI.cNe, hI.mNe, hnc, hnm, hx]) rfl
    · replace hx : q = 12 := hx
      refine z_top hx ?_
      refine z_tableIn X (pc := 1) (off := 109) (tgt := 110) dX11_account_1 (by decide) (by decide) (by rfl) (by decide) ?_
      refine z_aload_n X (pc := 110) 0 dX11_account_110 rfl rfl ?_
      refine z_get X (pc := 111) 15 zk_32_0 (zc_32_0 E _) rfl inlX11 (by decide) gw_815 rfl rfl dX11_account_111 ?_
      refine z_top (y := (nI t.length)) hT.1 ?_
      exact z_pret X Y dX11_account_114 (by simp [aAccount, nSit, hI.cNe, hI.mNe, hnc, hnm, hx]) rfl
    · replace hx : q = 13 := hx
      refine z_top hx ?_
      refine z_tableIn X (pc := 1) (off := 114) (tgt := 115) dX11_account_1 (by decide) (by decide) (by rfl) (by decide) ?_
      refine z_aload_n X (pc := 115) 0 dX11_account_115 rfl rfl ?_
      refine z_get X (pc := 116) 8 zk_32_0 (zc_32_0 E _) rfl inlX11 (by decide) gw_257 rfl rfl dX11_account_116 ?_
      refine z_top (y := (nI hl.length)) hH.1 ?_
      exact z_pret X Y dX11_account_119 (by simp [aAccount, nSit, hI.cNe, hI.mNe, hnc, hnm, hx]) rfl

def rm_X11_character : Room := { frames := 1, cells := 0, slots := 0, locals := 22 }
theorem kv_X11_character : KV yX11_character RX11 cX11_character 2 (some .int) 1 := ⟨⟨gw_1053, gw_1054, gw_5, gw_1055⟩, by decide +kernel⟩
set_option maxRecDepth 100000 in
set_option maxHeartbeats 4000000 in
theorem c_X11_character (E : ZE) (M : Mem) (l : List Int32) (hL : LM M l) (x : Int32) : Mt E yX11_character cX11_character 2 (some .int) rm_X11_character [.ref (za E 32 0), .int x] M (PI (aChar l x) M) := by
  have hl0 := hL.2.1
  refine z_met (own := RX11) (lv := [(0, .ref (za E 32 0)), (1, .int x)]) (by decide) rfl (Nat.le_of_ble_eq_true rfl) rfl (fun gg X Y => ?_)
  refine z_iload_n X (pc := 0) 1 dX11_character_0 rfl rfl ?_
  refine z_iconst X (pc := 1) (v := 0) dX11_character_1 (by decide) ?_
  refine z_aload_n X (pc := 2) 0 dX11_character_2 rfl rfl ?_
  refine z_get X (pc := 3) 13 zk_32_0 (zc_32_0 E _) rfl inlX11 (by decide) gw_1022 rfl rfl dX11_character_3 ?_
  refine z_top (y := (nI l.length)) hL.1 ?_
  refine z_iconst X (pc := 6) (v := 1) dX11_character_6 (by decide) ?_
  refine z_isub X (pc := 7) dX11_character_7 ?_
  refine z_callS X (pc := 8) (rest := []) ks_X11_isBetween (c_X11_isBetween E M x 0 (nI l.length - 1)) gw_240 (by decide) rfl rfl (Nat.le_of_ble_eq_true rfl) dX11_character_8 (zk_i ?_)
  refine z_bif_eq X (pc := 11) (tgt := 23) dX11_character_11 (by decide) (fun c11 => ?_) (fun c11 => ?_)
  · refine z_sipush X (pc := 23) (v := (-1011)) dX11_character_23 (by decide) ?_
    exact z_pret X Y dX11_character_26 (by rw [inB_inR (by omega)] at c11; simp [aChar, atL, c11]) rfl
  · rw [inB_inR (by omega)] at c11
    obtain ⟨k, hk, rfl⟩ := inR_of c11 (by omega)
    refine z_aload_n X (pc := 14) 0 dX11_character_14 rfl rfl ?_
    refine z_get X (pc := 15) 12 zk_32_0 (zc_32_0 E _) rfl inlX11 (by decide) gw_148 rfl rfl dX11_character_15 ?_
    refine z_iload_n X (pc := 18) 1 dX11_character_18 rfl rfl ?_
    refine z_cald X (pc := 19) (by decide) rfl (show k < 120 by omega) dX11_character_19 ?_
    refine z_goto X (pc := 20) (tgt := 26) dX11_character_20 (by decide) ?_
    exact z_pret X Y dX11_character_26 ((hL.2.2.1 k hk).trans (char_at hk (by omega) hL.2.2.2).symm) rfl

def rm_X11_append : Room := { frames := 1, cells := 0, slots := 0, locals := 22 }
theorem kv_X11_append : KV yX11_append RX11 cX11_append 2 (some .int) 1 := ⟨⟨gw_812, gw_813, gw_5, gw_814⟩, by decide +kernel⟩
set_option maxRecDepth 100000 in
set_option maxHeartbeats 4000000 in
theorem c_X11_append (E : ZE) (M : Mem) (t : List Int32) (hT : TM M t) (x : Int32) : Mt E yX11_append cX11_append 2 (some .int) rm_X11_append [.ref (za E 32 0), .int x] M (RI (fun v M1 => v = (aAppend t x).1 ∧ TM M1 (aAppend t x).2 ∧ Fq tT M M1)) := by
  have hl0 := hT.2.1
  refine z_met (own := RX11) (lv := [(0, .ref (za E 32 0)), (1, .int x)]) (by decide) rfl (Nat.le_of_ble_eq_true rfl) rfl (fun gg X Y => ?_)
  refine z_iload_n X (pc := 0) 1 dX11_append_0 rfl rfl ?_
  refine z_bipush X (pc := 1) (v := 32) dX11_append_1 (by decide) ?_
  refine z_bipush X (pc := 3) (v := 126) dX11_append_3 (by decide) ?_
  refine z_callS X (pc := 5) (rest := []) ks_X11_isBetween (c_X11_isBetween E M x 32 126) gw_240 (by decide) rfl rfl (Nat.le_of_ble_eq_true rfl) dX11_append_5 (zk_i ?_)
  refine z_bif_ne X (pc := 8) (tgt := 15) dX11_append_8 (by decide) (fun c8 => ?_) (fun c8 => ?_)
  · refine z_aload_n X (pc := 15) 0 dX11_append_15 rfl rfl ?_
    refine z_get X (pc := 16) 15 zk_32_0 (zc_32_0 E _) rfl inlX11 (by decide) gw_815 rfl rfl dX11_append_16 ?_
    refine z_top (y := (nI t.length)) hT.1 ?_
    refine z_bipush X (pc := 19) (v := 60) dX11_append_19 (by decide) ?_
    refine z_nicmp_ne X (pc := 21) (a := t.length) (b := 60) (tgt := 28) dX11_append_21 (by decide) (by omega) (by omega) (fun c21 => ?_) (fun c21 => ?_)
    · obtain ⟨k, hk1, hk2, rfl⟩ := inB_rng (lo := 32) (hi := 126) c8 (by decide) (by decide)
      refine z_aload_n X (pc := 28) 0 dX11_append_28 rfl rfl ?_
      refine z_get X (pc := 29) 14 zk_32_0 (zc_32_0 E _) rfl inlX11 (by decide) gw_149 rfl rfl dX11_append_29 ?_
      refine z_aload_n X (pc := 32) 0 dX11_append_32 rfl rfl ?_
      refine z_get X (pc := 33) 15 zk_32_0 (zc_32_0 E _) rfl inlX11 (by decide) gw_815 rfl rfl dX11_append_33 ?_
      refine z_top (y := (nI t.length)) hT.1 ?_
      refine z_iload_n X (pc := 36) 1 dX11_append_36 rfl rfl ?_
      refine z_i2c X (pc := 37) (v := (nI k)) dX11_append_37 (i2c_k k (by omega)) ?_
      refine z_cast X (pc := 38) (by decide) rfl (show t.length < 60 by omega) (by exact nar_k k (by omega)) dX11_append_38 ?_
      refine z_aload_n X (pc := 39) 0 dX11_append_39 rfl rfl ?_
      refine z_dup X (pc := 40) dX11_append_40 rfl ?_
      refine z_get X (pc := 41) 15 zk_32_0 (zc_32_0 E _) rfl inlX11 (by decide) gw_815 rfl rfl dX11_append_41 ?_
      refine z_top (y := (nI t.length)) (by rw [up3_ne (by omega)]; exact hT.1) ?_
      refine z_iconst X (pc := 44) (v := 1) dX11_append_44 (by decide) ?_
      refine z_iadd X (pc := 45) dX11_append_45 ?_
      refine z_top (y := (nI (t.length + 1))) (nI_1 _) ?_
      refine z_put X (pc := 46) 15 zk_32_0 (zc_32_0 E _) rfl inlX11 tyX11 tyX11_ok nmX11 (by decide) gw_815 rfl rfl (ty := .int) (by decide +kernel) rfl rfl (Nat.le_of_ble_eq_true rfl) dX11_append_46 rfl ?_
      refine z_aload_n X (pc := 49) 0 dX11_append_49 rfl rfl ?_
      refine z_get X (pc := 50) 15 zk_32_0 (zc_32_0 E _) rfl inlX11 (by decide) gw_815 rfl rfl dX11_append_50 ?_
      refine z_top (y := (nI (t.length + 1))) up3_same ?_
      exact z_iret X Y dX11_append_53 ⟨_, rfl, by simp [aAppend, c8, show ¬ 60 ≤ t.length by omega], by simpa [aAppend, c8, show ¬ 60 ≤ t.length by omega] using TM.push hT (by omega), (Fq.rf.up (by unfold tT; omega)).up (by unfold tT; omega)⟩
    · refine z_sipush X (pc := 24) (v := (-1013)) dX11_append_24 (by decide) ?_
      exact z_iret X Y dX11_append_27 ⟨_, rfl, by simp [aAppend, c8, c21], by simpa [aAppend, c8, c21] using hT, Fq.rf⟩
  · refine z_sipush X (pc := 11) (v := (-1012)) dX11_append_11 (by decide) ?_
    exact z_iret X Y dX11_append_14 ⟨_, rfl, by simp [aAppend, c8], by simpa [aAppend, c8] using hT, Fq.rf⟩
