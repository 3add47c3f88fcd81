/-! ===== every change keeps what always holds ===== -/
theorem rng.mono {x : Int32} {lo hi lo' hi' : Nat} (h : rng x lo hi) (h1 : lo' ≤ lo) (h2 : hi ≤ hi') : rng x lo' hi' := by
  obtain ⟨k, a, b, e⟩ := h
  exact ⟨k, by omega, by omega, e⟩
theorem inB_rng {x : Int32} {lo hi : Nat} (h : inB x (nI lo) (nI hi) = true) (hl : lo < 2 ^ 31) (hh : hi < 2 ^ 31) : rng x lo hi := by
  unfold inB at h
  simp only [Bool.and_eq_true, Bool.not_eq_true', decide_eq_false_iff_not] at h
  obtain ⟨h1, h2⟩ := h
  rw [Int32.lt_iff_toInt_lt, nI_toInt hl] at h1
  rw [Int32.lt_iff_toInt_lt, nI_toInt hh] at h2
  refine ⟨x.toInt.toNat, by omega, by omega, ?_⟩
  apply Int32.toInt_inj.mp
  rw [nI_toInt (by omega)]
  omega
theorem InvC.of {g h : LG} {n n' c : Nat} (e : ∀ j, j < 7 → h j c = g j c) (hn : n ≤ n') (hc : InvC g n c) : InvC h n' c := by
  obtain ⟨h0, h1, h2, h3, h4, h5, h6⟩ := hc
  unfold InvC
  rw [e 0 (by decide), e 1 (by decide), e 2 (by decide), e 3 (by decide), e 4 (by decide), e 5 (by decide), e 6 (by decide)]
  exact ⟨h0, h1, h2, h3, h4, h5.mono (Nat.le_refl 0) (by omega), h6⟩
theorem InvM.of {g h : LG} {nc nc' m : Nat} (e : ∀ j, 7 ≤ j → j < 14 → h j m = g j m) (hn : nc ≤ nc') (hm : InvM g nc m) : InvM h nc' m := by
  obtain ⟨h0, h1, h2, h3, h4, h5, h6, h7⟩ := hm
  unfold InvM
  rw [e 7 (by decide) (by decide), e 8 (by decide) (by decide), e 9 (by decide) (by decide), e 10 (by decide) (by decide), e 11 (by decide) (by decide), e 12 (by decide) (by decide)]
  exact ⟨h0, h1, h2, h3, h4, h5, h6, h7.le hn⟩
theorem sumI_congr {f f' : Nat → Int32} {n : Nat} (h : ∀ k, k < n → f' k = f k) : sumI f' n = sumI f n := by
  induction n with
  | zero => rfl
  | succ n ih => unfold sumI; rw [ih (fun k hk => h k (by omega)), h n (by omega)]
theorem sumI_add {f f' : Nat → Int32} {n m : Nat} {d : Int32} (hm : m < n) (h : ∀ k, k < n → f' k = if k = m then f m + d else f k) : sumI f' n = sumI f n + d := by
  induction n with
  | zero => omega
  | succ n ih =>
    unfold sumI
    by_cases e : m = n
    · subst e
      rw [sumI_congr (f := f) (fun k hk => by rw [h k (by omega), if_neg (by omega)]), h m (by omega), if_pos rfl, Int32.add_assoc]
    · rw [ih (by omega) (fun k hk => h k (by omega)), h n (by omega), if_neg (fun q => e q.symm), Int32.add_assoc, Int32.add_assoc, Int32.add_comm d]
theorem bal.of {g h : LG} {nm : Nat} (h8 : h 14 8 = g 14 8) (h0 : h 14 0 = g 14 0) (h1 : h 14 1 = g 14 1) (h2 : h 14 2 = g 14 2) (h3 : h 14 3 = g 14 3) (h10 : ∀ m, m < nm → h 10 m = g 10 m) (hb : bal g nm) : bal h nm := by
  unfold bal at hb ⊢
  rw [h8, h0, h1, h2, h3, sumI_congr h10]
  exact hb
theorem Inv.succ {g : LG} {nc nm n n' : Nat} (h : Inv g nc nm n) (hn : n ≤ n') (hn2 : n' ≤ 100000) : Inv g nc nm n' :=
  ⟨h.1, fun c hc => (h.ch c hc).of (fun _ _ => rfl) hn, h.mu, h.ef, h.lg.mono (Nat.le_refl 0) (by omega), h.bl, hn2⟩
theorem nI_sub {a b : Nat} (h : b ≤ a) : nI a - nI b = nI (a - b) := by
  have e : nI a = nI (a - b) + nI b := by rw [nI_add]; congr 1; omega
  rw [e, Int32.add_sub_cancel]
/-- a new chair -/
theorem bringC_inv {g : LG} {nc nm n : Nat} {s d : Int32} (h : Inv g nc nm n) (hn : nc < 10) (hs : rng s 0 3) (hd : rng d 1 9) : Inv (bringC g nc s d) (nc + 1) nm n := by
  have h10 := h.m10
  refine ⟨⟨by simp [bringC, gu_r], by simpa [bringC, gu_r] using h.nm, by omega, h10⟩, fun c hc => ?_, fun m hm => ?_, ⟨fun m c hm hc e => ?_, fun c hc => ?_⟩, ?_, ?_, h.le⟩
  · by_cases e : c = nc
    · subst e
      unfold InvC
      simp only [bringC, gu_r]
      simp
      exact ⟨hs, hd, ⟨0, by omega, by omega, rfl⟩, ⟨3, by omega, by omega, rfl⟩, ⟨0, by omega, by omega, rfl⟩, ⟨0, by omega, by omega, rfl⟩⟩
    · exact (h.ch c (by omega)).of (fun j hj => by unfold bringC; rw [gu_ne (by omega), gu_ne (by omega), gu_ne (by omega), gu_ne (by omega), gu_ne (by omega), gu_ne (by omega), gu_ne (by omega), gu_ne (by omega)]) (Nat.le_refl n)
  · exact (h.mu m hm).of (fun j hj hj2 => by unfold bringC; rw [gu_ne (by omega), gu_ne (by omega), gu_ne (by omega), gu_ne (by omega), gu_ne (by omega), gu_ne (by omega), gu_ne (by omega), gu_ne (by omega)]) (by omega)
  · have e : g 12 m = nI c := by simpa [bringC, gu_r] using e
    have hcn : c < nc := by
      rcases h.nor12 hm with q | ⟨k, hk, q⟩
      · rw [q] at e; exact absurd e.symm (nI_ne_m1 (by omega))
      · have := nI_inj (by omega) (by omega) (e.symm.trans q); omega
    have := h.ef.1 m c hm hcn e
    simpa [bringC, gu_r, show ¬ c = nc by omega] using this
  · by_cases e : c = nc
    · exact Or.inl (by simp [bringC, gu_r, e])
    · rcases h.ef.2 c (by omega) with q | ⟨m, hm, q1, q2⟩
      · exact Or.inl (by simpa [bringC, gu_r, e] using q)
      · exact Or.inr ⟨m, hm, by simpa [bringC, gu_r, e] using q1, by simpa [bringC, gu_r] using q2⟩
  · have := h.lg
    simpa [bringC, gu_r] using this
  · exact h.bl.of (by simp [bringC, gu_r]) (by simp [bringC, gu_r]) (by simp [bringC, gu_r]) (by simp [bringC, gu_r]) (by simp [bringC, gu_r]) (fun m hm => by simp [bringC, gu_r])
/-- a new musician -/
theorem bringM_inv {g : LG} {nc nm n : Nat} {s k d : Int32} (h : Inv g nc nm n) (hn : nm < 10) (hs : rng s 0 3) (hk : rng k 1 9) (hd : rng d 0 9) : Inv (bringM g nm s k d) nc (nm + 1) n := by
  have h10 := h.c10
  refine ⟨⟨by simpa [bringM, gu_r] using h.nc, by simp [bringM, gu_r], h10, by omega⟩, fun c hc => ?_, fun m hm => ?_, ⟨fun m c hm hc e => ?_, fun c hc => ?_⟩, ?_, ?_, h.le⟩
  · exact (h.ch c hc).of (fun j hj => by unfold bringM; rw [gu_ne (by omega), gu_ne (by omega), gu_ne (by omega), gu_ne (by omega), gu_ne (by omega), gu_ne (by omega), gu_ne (by omega), gu_ne (by omega)]) (Nat.le_refl n)
  · by_cases e : m = nm
    · subst e
      unfold InvM
      simp only [bringM, gu_r]
      simp
      exact ⟨hs, hk, hd, ⟨8, by omega, by omega, rfl⟩, ⟨0, by omega, by omega, rfl⟩, Or.inl rfl⟩
    · exact (h.mu m (by omega)).of (fun j hj hj2 => by unfold bringM; rw [gu_ne (by omega), gu_ne (by omega), gu_ne (by omega), gu_ne (by omega), gu_ne (by omega), gu_ne (by omega), gu_ne (by omega), gu_ne (by omega)]) (Nat.le_refl nc)
  · by_cases em : m = nm
    · subst em
      have e : (-1 : Int32) = nI c := by simpa [bringM, gu_r] using e
      exact absurd e.symm (nI_ne_m1 (by omega))
    · have e : g 12 m = nI c := by simpa [bringM, gu_r, em] using e
      have := h.ef.1 m c (by omega) hc e
      simpa [bringM, gu_r] using this
  · rcases h.ef.2 c hc with q | ⟨m, hm, q1, q2⟩
    · exact Or.inl (by simpa [bringM, gu_r] using q)
    · exact Or.inr ⟨m, by omega, by simpa [bringM, gu_r] using q1, by simpa [bringM, gu_r, show ¬ m = nm by omega] using q2⟩
  · have := h.lg
    simpa [bringM, gu_r] using this
  · have hb := h.bl
    have hm8 := h.nm
    unfold bal at hb ⊢
    have e1 : sumI (bringM g nm s k d 10) (nm + 1) = sumI (g 10) nm + 8 := by
      show sumI (bringM g nm s k d 10) nm + bringM g nm s k d 10 nm = sumI (g 10) nm + 8
      rw [sumI_congr (f := g 10) (fun k hk => by simp [bringM, gu_r, show ¬ k = nm by omega])]
      simp [bringM, gu_r]
    rw [e1]
    have e2 : bringM g nm s k d 14 8 = nI (nm + 1) := by simp [bringM, gu_r]
    have e3 : bringM g nm s k d 14 0 = g 14 0 := by simp [bringM, gu_r]
    have e4 : bringM g nm s k d 14 1 = g 14 1 := by simp [bringM, gu_r]
    have e5 : bringM g nm s k d 14 2 = g 14 2 := by simp [bringM, gu_r]
    have e6 : bringM g nm s k d 14 3 = g 14 3 := by simp [bringM, gu_r]
    rw [e2, e3, e4, e5, e6, ← nI_1 nm]
    rw [hm8] at hb
    grind
/-- sitting down -/
theorem sitG_inv {g : LG} {nc nm n c m : Nat} (h : Inv g nc nm n) (hc : c < nc) (hm : m < nm) (h3 : ¬ g 3 c = 0) (h6 : g 6 c = -1) (h12 : g 12 m = -1) : Inv (sitG g c m) nc nm n := by
  have h10 := h.c10
  have h20 := h.m10
  refine ⟨⟨by rw [sitG_off (by decide)]; exact h.nc, by rw [sitG_off (by decide)]; exact h.nm, h10, h20⟩, fun c' hc' => ?_, fun m' hm' => ?_, ?_, by rw [sitG_off (by decide)]; exact h.lg, h.bl.of (sitG_off (by decide)) (sitG_off (by decide)) (sitG_off (by decide)) (sitG_off (by decide)) (sitG_off (by decide)) (fun _ _ => sitG_off (by decide)), h.le⟩
  · by_cases e : c' = c
    · subst e
      obtain ⟨q0, q1, q2, q3, q4, q5, q6⟩ := h.ch c' hc'
      unfold InvC
      rw [sitG_off (by decide), sitG_off (by decide), sitG_off (by decide), sitG_off (by decide), sitG_off (by decide), sitG_off (by decide)]
      exact ⟨q0, q1, q2, q3, q4, q5, fun z => absurd z h3⟩
    · exact (h.ch c' hc').of (fun j hj => by simp [sitG, gu_r, e]; omega) (Nat.le_refl n)
  · by_cases e : m' = m
    · subst e
      obtain ⟨q0, q1, q2, q3, q4, q5, q6, q7⟩ := h.mu m' hm'
      unfold InvM
      rw [sitG_off (by decide), sitG_off (by decide), sitG_off (by decide), sitG_off (by decide), sitG_off (by decide)]
      have e12 : sitG g c m' 12 m' = nI c := by simp [sitG, gu_r]
      rw [e12]
      exact ⟨q0, q1, q2, q3, q4, q5, fun z => absurd z (nI_ne_m1 (by omega)), Or.inr ⟨c, hc, rfl⟩⟩
    · exact (h.mu m' hm').of (fun j hj hj2 => by simp [sitG, gu_r, e]; omega) (Nat.le_refl nc)
  · refine dEF_mv h10 h20 h.ef hm hc h6 (fun m' _ => by simp [sitG, gu_r]) (fun c' _ => ?_)
    rw [h12, if_neg (show ¬ (-1 : Int32) = nI c' from fun q => nI_ne_m1 (show c' < 2 ^ 31 by omega) q.symm)]
    simp [sitG, gu_r]
/-- standing up -/
theorem leaveG_6' {g : LG} {nc nm n m c : Nat} (h : Inv g nc nm n) (hm : m < nm) (hc : c < nc) : leaveG g m 6 c = if g 12 m = nI c then -1 else g 6 c := by
  have h10 := h.c10
  rcases h.nor12 hm with q | ⟨k, hk, q⟩
  · rw [q, if_neg (fun z => nI_ne_m1 (show c < 2 ^ 31 by omega) z.symm)]
    unfold leaveG unsit
    rw [gu_ne (by omega), gu_ne (by omega), q, if_pos rfl]
  · rw [leaveG_6 (c := k) (by omega) q, q]
    by_cases e : c = k
    · subst e; simp
    · rw [if_neg e, if_neg (fun z => e (nI_inj (by omega) (by omega) z).symm)]
theorem leaveG_11 {g : LG} {m k : Nat} : leaveG g m 11 k = if k = m then 0 else g 11 k := by
  unfold leaveG
  rw [gu_r]
  by_cases e : k = m
  · simp [e]
  · simp only [e, and_false, if_false]
    rw [gu_ne (by omega)]
    unfold unsit
    split
    · rfl
    · exact gu_ne (by omega)
theorem leaveG_inv {g : LG} {nc nm n m : Nat} (h : Inv g nc nm n) (hm : m < nm) : Inv (leaveG g m) nc nm n := by
  have h10 := h.c10
  have h20 := h.m10
  refine ⟨⟨by rw [leaveG_off (by decide)]; exact h.nc, by rw [leaveG_off (by decide)]; exact h.nm, h10, h20⟩, fun c hc => ?_, fun m' hm' => ?_, ⟨fun m' c hm' hc e => ?_, fun c hc => ?_⟩, by rw [leaveG_off (by decide)]; exact h.lg, h.bl.of (leaveG_off (by decide)) (leaveG_off (by decide)) (leaveG_off (by decide)) (leaveG_off (by decide)) (leaveG_off (by decide)) (fun _ _ => leaveG_off (by decide)), h.le⟩
  · obtain ⟨q0, q1, q2, q3, q4, q5, q6⟩ := h.ch c hc
    unfold InvC
    rw [leaveG_off (by decide), leaveG_off (by decide), leaveG_off (by decide), leaveG_off (by decide), leaveG_off (by decide), leaveG_off (by decide), leaveG_6' h hm hc]
    refine ⟨q0, q1, q2, q3, q4, q5, fun z => ?_⟩
    split
    · rfl
    · exact q6 z
  · obtain ⟨q0, q1, q2, q3, q4, q5, q6, q7⟩ := h.mu m' hm'
    unfold InvM
    rw [leaveG_off (by decide), leaveG_off (by decide), leaveG_off (by decide), leaveG_off (by decide), leaveG_11, leaveG_12]
    by_cases e : m' = m
    · subst e
      obtain ⟨k, -, hk, ek⟩ := q3
      simp only [if_true]
      exact ⟨q0, q1, q2, ⟨k, by omega, hk, ek⟩, ⟨0, by omega, by omega, rfl⟩, by rw [ek]; exact nI_le (a := 0) (Nat.zero_le k) (by omega), fun _ => trivial, Or.inl rfl⟩
    · simp only [e, if_false]
      exact ⟨q0, q1, q2, q3, q4, q5, q6, q7⟩
  · rw [leaveG_12] at e
    by_cases em : m' = m
    · rw [if_pos em] at e; exact absurd e.symm (nI_ne_m1 (by omega))
    · rw [if_neg em] at e
      rw [leaveG_6' h hm hc, if_neg (fun z => ?_)]
      · exact h.ef.1 m' c hm' hc e
      · have a1 := h.ef.1 m' c hm' hc e
        have a2 := h.ef.1 m c hm hc z
        exact em (nI_inj (by omega) (by omega) (a1.symm.trans a2))
  · rw [leaveG_6' h hm hc]
    by_cases z : g 12 m = nI c
    · exact Or.inl (if_pos z)
    · rw [if_neg z]
      rcases h.ef.2 c hc with q | ⟨m1, hm1, q1, q2⟩
      · exact Or.inl q
      · refine Or.inr ⟨m1, hm1, q1, ?_⟩
        rw [leaveG_12, if_neg (fun (e : m1 = m) => z (by rw [← e]; exact q2))]
        exact q2
theorem leaveN_inv {g : LG} {nc nm n k : Nat} (h : Inv g nc nm n) (hk : k ≤ nm) : Inv (leaveN g k) nc nm n := by
  induction k with
  | zero => exact h
  | succ k ih => exact leaveG_inv (ih (by omega)) (by omega)
