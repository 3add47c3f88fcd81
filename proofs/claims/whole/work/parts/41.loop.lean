/-! ===== the law's loop ===== -/
theorem le_of_nlt {L p : Nat} (hL : L ≤ 2048) (hp : p ≤ 2048) (h : ¬ (Int32.ofNat L - 4 < nI p)) : p + 4 ≤ L := by
  rw [Int32.lt_iff_toInt_lt, nI_toInt (by omega)] at h
  by_cases h4 : 4 ≤ L
  · have e : Int32.ofNat L - 4 = nI (L - 4) := nI_sub h4
    rw [e, nI_toInt (by omega)] at h
    omega
  · rcases (show L = 0 ∨ L = 1 ∨ L = 2 ∨ L = 3 by omega) with rfl | rfl | rfl | rfl
    · rw [show (Int32.ofNat 0 - 4).toInt = -4 from by decide] at h; omega
    · rw [show (Int32.ofNat 1 - 4).toInt = -3 from by decide] at h; omega
    · rw [show (Int32.ofNat 2 - 4).toInt = -2 from by decide] at h; omega
    · rw [show (Int32.ofNat 3 - 4).toInt = -1 from by decide] at h; omega
set_option maxRecDepth 100000 in
set_option maxHeartbeats 4000000 in
theorem l_loop {g : ZG} {E : ZE} {kc kn b L : Nat} {xs : Nat → Int32} (X : LX g E kc kn b L xs) (fin : ∀ (M : Mem) (lv : List (Nat × Value)), ZL g E kc kn M lv 1009 []) : ∀ (f p n : Nat) (M : Mem) (S : LSt), L ≤ p + 4 * f → p ≤ 2048 → n + 31 * f + 31 ≤ 100000 → XS M S → MS M S → IV S n → ZL g E kc kn M (LV E b p) 18 [] := by
  intro f
  induction f with
  | zero =>
    intro p n M S hf hp hn hX hM hI
    refine l_iload_n X.1 0 dL_law_18 rfl rfl ?_
    refine l_aload_n X.1 3 dL_law_19 rfl rfl ?_
    refine l_slen X.1 X.2.2.1 dL_law_20 ?_
    refine l_iconst X.1 (v := 4) dL_law_21 (by decide) ?_
    refine l_isub X.1 dL_law_22 ?_
    refine l_icmp_gt X.1 (tgt := 1009) dL_law_23 (by decide) (fun _ => fin _ _) (fun hlt => ?_)
    have h4 := le_of_nlt X.2.2.2 hp hlt
    omega
  | succ f ih =>
    intro p n M S hf hp hn hX hM hI
    refine l_iload_n X.1 0 dL_law_18 rfl rfl ?_
    refine l_aload_n X.1 3 dL_law_19 rfl rfl ?_
    refine l_slen X.1 X.2.2.1 dL_law_20 ?_
    refine l_iconst X.1 (v := 4) dL_law_21 (by decide) ?_
    refine l_isub X.1 dL_law_22 ?_
    refine l_icmp_gt X.1 (tgt := 1009) dL_law_23 (by decide) (fun _ => fin _ _) (fun hlt => ?_)
    have h4 := le_of_nlt X.2.2.2 hp hlt
    have hL := X.2.2.2
    have nx : LN g E kc kn b n p := fun M' S' hX' hM' hI' => by
      refine l_iinc X.1 (v := nI (p + 4)) (lv1 := LV E b (p + 4)) 0 dL_law_1003 rfl (by rw [← nI_add]; rfl) (by decide) rfl ?_
      refine l_goto X.1 (tgt := 18) dL_law_1006 (by decide) ?_
      exact ih (p + 4) (n + 31) M' S' (by omega) (by omega) (by omega) hX' hM' hI'
    refine l_aload_n X.1 3 dL_law_26 rfl rfl ?_
    refine l_iload_n X.1 0 dL_law_27 rfl rfl ?_
    refine l_sld X.1 X.2.2.1 (j := p) rfl (by omega) hL dL_law_28 ?_
    refine l_bipush X.1 (v := 63) dL_law_29 (by decide) ?_
    refine l_iand X.1 dL_law_31 ?_
    generalize xs p &&& 63 = w
    by_cases hw : w.toInt < 0 ∨ 32 < w.toInt
    · exact l_tableOut X.1 (tgt := 1003) dL_law_32 hw (by decide) (nx M S hX hM (hI.up (Nat.le_add_right n 31) (by omega)))
    · rcases (show w.toInt = 0 ∨ w.toInt = 1 ∨ w.toInt = 2 ∨ w.toInt = 3 ∨ w.toInt = 4 ∨ w.toInt = 5 ∨ w.toInt = 6 ∨ w.toInt = 7 ∨ w.toInt = 8 ∨ w.toInt = 9 ∨ w.toInt = 10 ∨ w.toInt = 11 ∨ w.toInt = 12 ∨ w.toInt = 13 ∨ w.toInt = 14 ∨ w.toInt = 15 ∨ w.toInt = 16 ∨ w.toInt = 17 ∨ w.toInt = 18 ∨ w.toInt = 19 ∨ w.toInt = 20 ∨ w.toInt = 21 ∨ w.toInt = 22 ∨ w.toInt = 23 ∨ w.toInt = 24 ∨ w.toInt = 25 ∨ w.toInt = 26 ∨ w.toInt = 27 ∨ w.toInt = 28 ∨ w.toInt = 29 ∨ w.toInt = 30 ∨ w.toInt = 31 ∨ w.toInt = 32 by omega) with h | h | h | h | h | h | h | h | h | h | h | h | h | h | h | h | h | h | h | h | h | h | h | h | h | h | h | h | h | h | h | h | h
      · exact l_tableIn X.1 (off := 148) (tgt := 180) dL_law_32 (by omega) (by omega) (by rw [h]; rfl) (by decide) (lc_0 X (by omega) hX hM hI (by omega) nx)
      · exact l_tableIn X.1 (off := 181) (tgt := 213) dL_law_32 (by omega) (by omega) (by rw [h]; rfl) (by decide) (lc_1 X (by omega) hX hM hI (by omega) nx)
      · exact l_tableIn X.1 (off := 224) (tgt := 256) dL_law_32 (by omega) (by omega) (by rw [h]; rfl) (by decide) (lc_2 X (by omega) hX hM hI (by omega) nx)
      · exact l_tableIn X.1 (off := 257) (tgt := 289) dL_law_32 (by omega) (by omega) (by rw [h]; rfl) (by decide) (lc_3 X (by omega) hX hM hI (by omega) nx)
      · exact l_tableIn X.1 (off := 290) (tgt := 322) dL_law_32 (by omega) (by omega) (by rw [h]; rfl) (by decide) (lc_4 X (by omega) hX hM hI (by omega) nx)
      · exact l_tableIn X.1 (off := 323) (tgt := 355) dL_law_32 (by omega) (by omega) (by rw [h]; rfl) (by decide) (lc_5 X (by omega) hX hM hI (by omega) nx)
      · exact l_tableIn X.1 (off := 356) (tgt := 388) dL_law_32 (by omega) (by omega) (by rw [h]; rfl) (by decide) (lc_6 X (by omega) hX hM hI (by omega) nx)
      · exact l_tableIn X.1 (off := 379) (tgt := 411) dL_law_32 (by omega) (by omega) (by rw [h]; rfl) (by decide) (lc_7 X (by omega) hX hM hI (by omega) nx)
      · exact l_tableIn X.1 (off := 392) (tgt := 424) dL_law_32 (by omega) (by omega) (by rw [h]; rfl) (by decide) (lc_8 X (by omega) hX hM hI (by omega) nx)
      · exact l_tableIn X.1 (off := 415) (tgt := 447) dL_law_32 (by omega) (by omega) (by rw [h]; rfl) (by decide) (lc_9 X (by omega) hX hM hI (by omega) nx)
      · exact l_tableIn X.1 (off := 438) (tgt := 470) dL_law_32 (by omega) (by omega) (by rw [h]; rfl) (by decide) (lc_10 X (by omega) hX hM hI (by omega) nx)
      · exact l_tableIn X.1 (off := 451) (tgt := 483) dL_law_32 (by omega) (by omega) (by rw [h]; rfl) (by decide) (lc_11 X (by omega) hX hM hI (by omega) nx)
      · exact l_tableIn X.1 (off := 484) (tgt := 516) dL_law_32 (by omega) (by omega) (by rw [h]; rfl) (by decide) (lc_12 X (by omega) hX hM hI (by omega) nx)
      · exact l_tableIn X.1 (off := 507) (tgt := 539) dL_law_32 (by omega) (by omega) (by rw [h]; rfl) (by decide) (lc_13 X (by omega) hX hM hI (by omega) nx)
      · exact l_tableIn X.1 (off := 530) (tgt := 562) dL_law_32 (by omega) (by omega) (by rw [h]; rfl) (by decide) (lc_14 X (by omega) hX hM hI (by omega) nx)
      · exact l_tableIn X.1 (off := 553) (tgt := 585) dL_law_32 (by omega) (by omega) (by rw [h]; rfl) (by decide) (lc_15 X (by omega) hX hM hI (by omega) nx)
      · exact l_tableIn X.1 (off := 576) (tgt := 608) dL_law_32 (by omega) (by omega) (by rw [h]; rfl) (by decide) (lc_16 X (by omega) hX hM hI (by omega) nx)
      · exact l_tableIn X.1 (off := 599) (tgt := 631) dL_law_32 (by omega) (by omega) (by rw [h]; rfl) (by decide) (lc_17 X (by omega) hX hM hI (by omega) nx)
      · exact l_tableIn X.1 (off := 622) (tgt := 654) dL_law_32 (by omega) (by omega) (by rw [h]; rfl) (by decide) (lc_18 X (by omega) hX hM hI (by omega) nx)
      · exact l_tableIn X.1 (off := 645) (tgt := 677) dL_law_32 (by omega) (by omega) (by rw [h]; rfl) (by decide) (lc_19 X (by omega) hX hM hI (by omega) nx)
      · exact l_tableIn X.1 (off := 668) (tgt := 700) dL_law_32 (by omega) (by omega) (by rw [h]; rfl) (by decide) (lc_20 X (by omega) hX hM hI (by omega) nx)
      · exact l_tableIn X.1 (off := 691) (tgt := 723) dL_law_32 (by omega) (by omega) (by rw [h]; rfl) (by decide) (lc_21 X (by omega) hX hM hI (by omega) nx)
      · exact l_tableIn X.1 (off := 704) (tgt := 736) dL_law_32 (by omega) (by omega) (by rw [h]; rfl) (by decide) (lc_22 X (by omega) hX hM hI (by omega) nx)
      · exact l_tableIn X.1 (off := 727) (tgt := 759) dL_law_32 (by omega) (by omega) (by rw [h]; rfl) (by decide) (lc_23 X (by omega) hX hM hI (by omega) nx)
      · exact l_tableIn X.1 (off := 740) (tgt := 772) dL_law_32 (by omega) (by omega) (by rw [h]; rfl) (by decide) (lc_24 X (by omega) hX hM hI (by omega) nx)
      · exact l_tableIn X.1 (off := 763) (tgt := 795) dL_law_32 (by omega) (by omega) (by rw [h]; rfl) (by decide) (lc_25 X (by omega) hX hM hI (by omega) nx)
      · exact l_tableIn X.1 (off := 812) (tgt := 844) dL_law_32 (by omega) (by omega) (by rw [h]; rfl) (by decide) (lc_26 X (by omega) hX hM hI (by omega) nx)
      · exact l_tableIn X.1 (off := 835) (tgt := 867) dL_law_32 (by omega) (by omega) (by rw [h]; rfl) (by decide) (lc_27 X (by omega) hX hM hI (by omega) nx)
      · exact l_tableIn X.1 (off := 848) (tgt := 880) dL_law_32 (by omega) (by omega) (by rw [h]; rfl) (by decide) (lc_28 X (by omega) hX hM hI (by omega) nx)
      · exact l_tableIn X.1 (off := 889) (tgt := 921) dL_law_32 (by omega) (by omega) (by rw [h]; rfl) (by decide) (lc_29 X (by omega) hX hM hI (by omega) nx)
      · exact l_tableIn X.1 (off := 932) (tgt := 964) dL_law_32 (by omega) (by omega) (by rw [h]; rfl) (by decide) (lc_30 X (by omega) hX hM hI (by omega) nx)
      · exact l_tableIn X.1 (off := 945) (tgt := 977) dL_law_32 (by omega) (by omega) (by rw [h]; rfl) (by decide) (lc_31 X (by omega) hX hM hI (by omega) nx)
      · exact l_tableIn X.1 (off := 958) (tgt := 990) dL_law_32 (by omega) (by omega) (by rw [h]; rfl) (by decide) (lc_32 X (by omega) hX hM hI (by omega) nx)
def S0 : LSt := (gX (M0 9), [], [], [], [], none)
theorem gF_M0 : gF (M0 20 0) = gX (M0 9) := by
  funext j k
  have hz : ∀ r, r ≠ 3 → M0 9 r = fun _ => 0 := fun r h => by unfold M0; rw [if_neg (by omega), if_neg (by omega)]
  have h3 : M0 9 3 = upd (fun _ => 0) 0 10 := by unfold M0; rw [if_neg (by omega), if_pos ⟨rfl, by decide⟩]
  have h20 : M0 20 0 = upd (fun _ => 0) 0 10 := by unfold M0; rw [if_pos ⟨rfl, rfl⟩]
  rw [h20]
  have hu : ∀ k, k ≠ 0 → upd (fun _ => (0 : Int32)) 0 10 k = 0 := fun k h => by unfold upd; rw [if_neg h]
  unfold gF gX
  by_cases h7 : j < 7
  · rw [if_pos h7, if_pos (show j < 14 by omega)]
    split
    · rw [hz _ (by omega), hu _ (by omega)]
    · rfl
  · rw [if_neg h7]
    by_cases h14 : j < 14
    · rw [if_pos h14, if_pos h14]
      split
      · rw [hz _ (by omega), hu _ (by omega)]
      · rfl
    · rw [if_neg h14, if_neg h14]
      by_cases he : j = 14
      · rw [if_pos he, if_pos he]
        by_cases hk7 : k < 7
        · rw [if_pos hk7, if_pos (show k < 9 by omega), h3]
        · rw [if_neg hk7]
          by_cases e7 : k = 7
          · rw [if_pos e7, if_pos (show k < 9 by omega), hu _ (by omega), hz 1 (by decide)]
          · rw [if_neg e7]
            by_cases e8 : k = 8
            · rw [if_pos e8, if_pos (show k < 9 by omega), hu _ (by omega), hz 2 (by decide)]
            · rw [if_neg e8, if_neg (show ¬ k < 9 by omega)]
      · rw [if_neg he, if_neg he]
theorem XS_0 : XS M0 S0 := ⟨rfl, ⟨0, ⟨rfl, by decide, rfl, Nat.zero_le _, fun i hi => absurd hi (Nat.not_lt_zero i)⟩⟩, ⟨rfl, Nat.zero_le _, fun i hi => absurd hi (Nat.not_lt_zero i)⟩, ⟨rfl, Nat.zero_le _, fun i hi => absurd hi (Nat.not_lt_zero i)⟩, ⟨rfl, Nat.zero_le _, fun i hi => absurd hi (Nat.not_lt_zero i)⟩, rfl⟩
theorem MS_0 : MS M0 S0 := ⟨gF_M0, ⟨rfl, Nat.zero_le _, fun i hi => absurd hi (Nat.not_lt_zero i)⟩, ⟨rfl, Nat.zero_le _, fun i hi => absurd hi (Nat.not_lt_zero i)⟩, ⟨rfl, Nat.zero_le _, fun i hi => absurd hi (Nat.not_lt_zero i)⟩, ⟨rfl, Nat.zero_le _, fun i hi => absurd hi (Nat.not_lt_zero i), fun x hx => absurd hx List.not_mem_nil⟩, rfl, rfl⟩
theorem IV_0 : IV S0 0 := ⟨⟨0, 0, ⟨rfl, rfl, Nat.zero_le _, Nat.zero_le _⟩, fun c hc => absurd hc (Nat.not_lt_zero c), fun c hc => absurd hc (Nat.not_lt_zero c), ⟨fun m c hm => absurd hm (Nat.not_lt_zero m), fun c hc => absurd hc (Nat.not_lt_zero c)⟩, ⟨10, Nat.zero_le _, Nat.le_refl _, rfl⟩, rfl, Nat.zero_le _⟩, fun x hx => absurd hx List.not_mem_nil, fun x hx => absurd hx List.not_mem_nil, fun x hx => by cases hx⟩
