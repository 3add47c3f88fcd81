/-! ===== every change keeps what always holds ===== -/
theorem rng.mono {x : Int32} {lo hi lo' hi' : Nat} (h : rng x lo hi) (h1 : lo' ≤ lo) (h2 : hi ≤ hi') : rng x lo' hi' := by
  obtain ⟨k, a, b, e⟩ := h
  exact ⟨k, by omega, by omega, e⟩
theorem inB_rng {x : Int32} {lo hi : Nat} (h : inB x (nI lo) (nI hi) = true) (hl : lo < 2 ^ 31) (hh : hi < 2 ^ 31) : rng x lo hi := by
  unfold inB at h
  simp only [Bool.and_eq_true, Bool.not_eq_true', decide_eq_false_iff_not] at h
  obtain ⟨h1, h2⟩ := h
  rw [Int32.lt_iff_toInt_lt, nI_toInt hl] at h1
  rw [Int32.lt_iff_toInt_lt, nI_toInt hh] at h2
  refine ⟨x.toInt.toNat, by omega, by omega, ?_⟩
  apply Int32.toInt_inj.mp
  rw [nI_toInt (by omega)]
  omega
theorem InvC.of {g h : LG} {n n' c : Nat} (e : ∀ j, j < 7 → h j c = g j c) (hn : n ≤ n') (hc : InvC g n c) : InvC h n' c := by
  obtain ⟨h0, h1, h2, h3, h4, h5, h6⟩ := hc
  unfold InvC
  rw [e 0 (by decide), e 1 (by decide), e 2 (by decide), e 3 (by decide), e 4 (by decide), e 5 (by decide), e 6 (by decide)]
  exact ⟨h0, h1, h2, h3, h4, h5.mono (Nat.le_refl 0) (by omega), h6⟩
theorem InvM.of {g h : LG} {nc nc' m : Nat} (e : ∀ j, 7 ≤ j → j < 14 → h j m = g j m) (hn : nc ≤ nc') (hm : InvM g nc m) : InvM h nc' m := by
  obtain ⟨h0, h1, h2, h3, h4, h5, h6, h7⟩ := hm
  unfold InvM
  rw [e 7 (by decide) (by decide), e 8 (by decide) (by decide), e 9 (by decide) (by decide), e 10 (by decide) (by decide), e 11 (by decide) (by decide), e 12 (by decide) (by decide)]
  exact ⟨h0, h1, h2, h3, h4, h5, h6, h7.le hn⟩
theorem sumI_congr {f f' : Nat → Int32} {n : Nat} (h : ∀ k, k < n → f' k = f k) : sumI f' n = sumI f n := by
  induction n with
  | zero => rfl
  | succ n ih => unfold sumI; rw [ih (fun k hk => h k (by omega)), h n (by omega)]
theorem sumI_add {f f' : Nat → Int32} {n m : Nat} {d : Int32} (hm : m < n) (h : ∀ k, k < n → f' k = if k = m then f m + d else f k) : sumI f' n = sumI f n + d := by
  induction n with
  | zero => omega
  | succ n ih =>
    unfold sumI
    by_cases e : m = n
    · subst e
      rw [sumI_congr (f := f) (fun k hk => by rw [h k (by omega), if_neg (by omega)]), h m (by omega), if_pos rfl, Int32.add_assoc]
    · rw [ih (by omega) (fun k hk => h k (by omega)), h n (by omega), if_neg (fun q => e q.symm), Int32.add_assoc, Int32.add_assoc, Int32.add_comm d]
theorem bal.of {g h : LG} {nm : Nat} (h8 : h 14 8 = g 14 8) (h0 : h 14 0 = g 14 0) (h1 : h 14 1 = g 14 1) (h2 : h 14 2 = g 14 2) (h3 : h 14 3 = g 14 3) (h10 : ∀ m, m < nm → h 10 m = g 10 m) (hb : bal g nm) : bal h nm := by
  unfold bal at hb ⊢
  rw [h8, h0, h1, h2, h3, sumI_congr h10]
  exact hb
theorem Inv.succ {g : LG} {nc nm n n' : Nat} (h : Inv g nc nm n) (hn : n ≤ n') (hn2 : n' ≤ 100000) : Inv g nc nm n' :=
  ⟨h.1, fun c hc => (h.ch c hc).of (fun _ _ => rfl) hn, h.mu, h.ef, h.lg.mono (Nat.le_refl 0) (by omega), h.bl, hn2⟩
theorem nI_sub {a b : Nat} (h : b ≤ a) : nI a - nI b = nI (a - b) := by
  have e : nI a = nI (a - b) + nI b := by rw [nI_add]; congr 1; omega
  rw [e, Int32.add_sub_cancel]
/-- a new chair -/
theorem bringC_inv {g : LG} {nc nm n : Nat} {s d : Int32} (h : Inv g nc nm n) (hn : nc < 10) (hs : rng s 0 3) (hd : rng d 1 9) : Inv (bringC g nc s d) (nc + 1) nm n := by
  have h10 := h.m10
  refine ⟨⟨by simp [bringC, gu_r], by simpa [bringC, gu_r] using h.nm, by omega, h10⟩, fun c hc => ?_, fun m hm => ?_, ⟨fun m c hm hc e => ?_, fun c hc => ?_⟩, ?_, ?_, h.le⟩
  · by_cases e : c = nc
    · subst e
      unfold InvC
      simp only [bringC, gu_r]
      simp
      exact ⟨hs, hd, ⟨0, by omega, by omega, rfl⟩, ⟨3, by omega, by omega, rfl⟩, ⟨0, by omega, by omega, rfl⟩, ⟨0, by omega, by omega, rfl⟩⟩
    · exact (h.ch c (by omega)).of (fun j hj => by unfold bringC; rw [gu_ne (by omega), gu_ne (by omega), gu_ne (by omega), gu_ne (by omega), gu_ne (by omega), gu_ne (by omega), gu_ne (by omega), gu_ne (by omega)]) (Nat.le_refl n)
  · exact (h.mu m hm).of (fun j hj hj2 => by unfold bringC; rw [gu_ne (by omega), gu_ne (by omega), gu_ne (by omega), gu_ne (by omega), gu_ne (by omega), gu_ne (by omega), gu_ne (by omega), gu_ne (by omega)]) (by omega)
  · have e : g 12 m = nI c := by simpa [bringC, gu_r] using e
    have hcn : c < nc := by
      rcases h.nor12 hm with q | ⟨k, hk, q⟩
      · rw [q] at e; exact absurd e.symm (nI_ne_m1 (by omega))
      · have := nI_inj (by omega) (by omega) (e.symm.trans q); omega
    have := h.ef.1 m c hm hcn e
    simpa [bringC, gu_r, show ¬ c = nc by omega] using this
  · by_cases e : c = nc
    · exact Or.inl (by simp [bringC, gu_r, e])
    · rcases h.ef.2 c (by omega) with q | ⟨m, hm, q1, q2⟩
      · exact Or.inl (by simpa [bringC, gu_r, e] using q)
      · exact Or.inr ⟨m, hm, by simpa [bringC, gu_r, e] using q1, by simpa [bringC, gu_r] using q2⟩
  · have := h.lg
    simpa [bringC, gu_r] using this
  · exact h.bl.of (by simp [bringC, gu_r]) (by simp [bringC, gu_r]) (by simp [bringC, gu_r]) (by simp [bringC, gu_r]) (by simp [bringC, gu_r]) (fun m hm => by simp [bringC, gu_r])
/-- a new musician -/
theorem bringM_inv {g : LG} {nc nm n : Nat} {s k d : Int32} (h : Inv g nc nm n) (hn : nm < 10) (hs : rng s 0 3) (hk : rng k 1 9) (hd : rng d 0 9) : Inv (bringM g nm s k d) nc (nm + 1) n := by
  have h10 := h.c10
  refine ⟨⟨by simpa [bringM, gu_r] using h.nc, by simp [bringM, gu_r], h10, by omega⟩, fun c hc => ?_, fun m hm => ?_, ⟨fun m c hm hc e => ?_, fun c hc => ?_⟩, ?_, ?_, h.le⟩
  · exact (h.ch c hc).of (fun j hj => by unfold bringM; rw [gu_ne (by omega), gu_ne (by omega), gu_ne (by omega), gu_ne (by omega), gu_ne (by omega), gu_ne (by omega), gu_ne (by omega), gu_ne (by omega)]) (Nat.le_refl n)
  · by_cases e : m = nm
    · subst e
      unfold InvM
      simp only [bringM, gu_r]
      simp
      exact ⟨hs, hk, hd, ⟨8, by omega, by omega, rfl⟩, ⟨0, by omega, by omega, rfl⟩, Or.inl rfl⟩
    · exact (h.mu m (by omega)).of (fun j hj hj2 => by unfold bringM; rw [gu_ne (by omega), gu_ne (by omega), gu_ne (by omega), gu_ne (by omega), gu_ne (by omega), gu_ne (by omega), gu_ne (by omega), gu_ne (by omega)]) (Nat.le_refl nc)
  · by_cases em : m = nm
    · subst em
      have e : (-1 : Int32) = nI c := by simpa [bringM, gu_r] using e
      exact absurd e.symm (nI_ne_m1 (by omega))
    · have e : g 12 m = nI c := by simpa [bringM, gu_r, em] using e
      have := h.ef.1 m c (by omega) hc e
      simpa [bringM, gu_r] using this
  · rcases h.ef.2 c hc with q | ⟨m, hm, q1, q2⟩
    · exact Or.inl (by simpa [bringM, gu_r] using q)
    · exact Or.inr ⟨m, by omega, by simpa [bringM, gu_r] using q1, by simpa [bringM, gu_r, show ¬ m = nm by omega] using q2⟩
  · have := h.lg
    simpa [bringM, gu_r] using this
  · have hb := h.bl
    have hm8 := h.nm
    unfold bal at hb ⊢
    have e1 : sumI (bringM g nm s k d 10) (nm + 1) = sumI (g 10) nm + 8 := by
      show sumI (bringM g nm s k d 10) nm + bringM g nm s k d 10 nm = sumI (g 10) nm + 8
      rw [sumI_congr (f := g 10) (fun k hk => by simp [bringM, gu_r, show ¬ k = nm by omega])]
      simp [bringM, gu_r]
    rw [e1]
    have e2 : bringM g nm s k d 14 8 = nI (nm + 1) := by simp [bringM, gu_r]
    have e3 : bringM g nm s k d 14 0 = g 14 0 := by simp [bringM, gu_r]
    have e4 : bringM g nm s k d 14 1 = g 14 1 := by simp [bringM, gu_r]
    have e5 : bringM g nm s k d 14 2 = g 14 2 := by simp [bringM, gu_r]
    have e6 : bringM g nm s k d 14 3 = g 14 3 := by simp [bringM, gu_r]
    rw [e2, e3, e4, e5, e6, ← nI_1 nm]
    rw [hm8] at hb
    grind
/-- sitting down -/
theorem sitG_inv {g : LG} {nc nm n c m : Nat} (h : Inv g nc nm n) (hc : c < nc) (hm : m < nm) (h3 : ¬ g 3 c = 0) (h6 : g 6 c = -1) (h12 : g 12 m = -1) : Inv (sitG g c m) nc nm n := by
  have h10 := h.c10
  have h20 := h.m10
  refine ⟨⟨by rw [sitG_off (by decide)]; exact h.nc, by rw [sitG_off (by decide)]; exact h.nm, h10, h20⟩, fun c' hc' => ?_, fun m' hm' => ?_, ?_, by rw [sitG_off (by decide)]; exact h.lg, h.bl.of (sitG_off (by decide)) (sitG_off (by decide)) (sitG_off (by decide)) (sitG_off (by decide)) (sitG_off (by decide)) (fun _ _ => sitG_off (by decide)), h.le⟩
  · by_cases e : c' = c
    · subst e
      obtain ⟨q0, q1, q2, q3, q4, q5, q6⟩ := h.ch c' hc'
      unfold InvC
      rw [sitG_off (by decide), sitG_off (by decide), sitG_off (by decide), sitG_off (by decide), sitG_off (by decide), sitG_off (by decide)]
      exact ⟨q0, q1, q2, q3, q4, q5, fun z => absurd z h3⟩
    · exact (h.ch c' hc').of (fun j hj => by simp [sitG, gu_r, e]; omega) (Nat.le_refl n)
  · by_cases e : m' = m
    · subst e
      obtain ⟨q0, q1, q2, q3, q4, q5, q6, q7⟩ := h.mu m' hm'
      unfold InvM
      rw [sitG_off (by decide), sitG_off (by decide), sitG_off (by decide), sitG_off (by decide), sitG_off (by decide)]
      have e12 : sitG g c m' 12 m' = nI c := by simp [sitG, gu_r]
      rw [e12]
      exact ⟨q0, q1, q2, q3, q4, q5, fun z => absurd z (nI_ne_m1 (by omega)), Or.inr ⟨c, hc, rfl⟩⟩
    · exact (h.mu m' hm').of (fun j hj hj2 => by simp [sitG, gu_r, e]; omega) (Nat.le_refl nc)
  · refine dEF_mv h10 h20 h.ef hm hc h6 (fun m' _ => by simp [sitG, gu_r]) (fun c' _ => ?_)
    rw [h12, if_neg (show ¬ (-1 : Int32) = nI c' from fun q => nI_ne_m1 (show c' < 2 ^ 31 by omega) q.symm)]
    simp [sitG, gu_r]
/-- standing up -/
theorem leaveG_6' {g : LG} {nc nm n m c : Nat} (h : Inv g nc nm n) (hm : m < nm) (hc : c < nc) : leaveG g m 6 c = if g 12 m = nI c then -1 else g 6 c := by
  have h10 := h.c10
  rcases h.nor12 hm with q | ⟨k, hk, q⟩
  · rw [q, if_neg (fun z => nI_ne_m1 (show c < 2 ^ 31 by omega) z.symm)]
    unfold leaveG unsit
    rw [gu_ne (by omega), gu_ne (by omega), q, if_pos rfl]
  · rw [leaveG_6 (c := k) (by omega) q, q]
    by_cases e : c = k
    · subst e; simp
    · rw [if_neg e, if_neg (fun z => e (nI_inj (by omega) (by omega) z).symm)]
theorem leaveG_11 {g : LG} {m k : Nat} : leaveG g m 11 k = if k = m then 0 else g 11 k := by
  unfold leaveG
  rw [gu_r]
  by_cases e : k = m
  · simp [e]
  · simp only [e, and_false, if_false]
    rw [gu_ne (by omega)]
    unfold unsit
    split
    · rfl
    · exact gu_ne (by omega)
theorem leaveG_inv {g : LG} {nc nm n m : Nat} (h : Inv g nc nm n) (hm : m < nm) : Inv (leaveG g m) nc nm n := by
  have h10 := h.c10
  have h20 := h.m10
  refine ⟨⟨by rw [leaveG_off (by decide)]; exact h.nc, by rw [leaveG_off (by decide)]; exact h.nm, h10, h20⟩, fun c hc => ?_, fun m' hm' => ?_, ⟨fun m' c hm' hc e => ?_, fun c hc => ?_⟩, by rw [leaveG_off (by decide)]; exact h.lg, h.bl.of (leaveG_off (by decide)) (leaveG_off (by decide)) (leaveG_off (by decide)) (leaveG_off (by decide)) (leaveG_off (by decide)) (fun _ _ => leaveG_off (by decide)), h.le⟩
  · obtain ⟨q0, q1, q2, q3, q4, q5, q6⟩ := h.ch c hc
    unfold InvC
    rw [leaveG_off (by decide), leaveG_off (by decide), leaveG_off (by decide), leaveG_off (by decide), leaveG_off (by decide), leaveG_off (by decide), leaveG_6' h hm hc]
    refine ⟨q0, q1, q2, q3, q4, q5, fun z => ?_⟩
    split
    · rfl
    · exact q6 z
  · obtain ⟨q0, q1, q2, q3, q4, q5, q6, q7⟩ := h.mu m' hm'
    unfold InvM
    rw [leaveG_off (by decide), leaveG_off (by decide), leaveG_off (by decide), leaveG_off (by decide), leaveG_11, leaveG_12]
    by_cases e : m' = m
    · subst e
      obtain ⟨k, -, hk, ek⟩ := q3
      simp only [if_true]
      exact ⟨q0, q1, q2, ⟨k, by omega, hk, ek⟩, ⟨0, by omega, by omega, rfl⟩, by rw [ek]; exact nI_le (a := 0) (Nat.zero_le k) (by omega), fun _ => trivial, Or.inl rfl⟩
    · simp only [e, if_false]
      exact ⟨q0, q1, q2, q3, q4, q5, q6, q7⟩
  · rw [leaveG_12] at e
    by_cases em : m' = m
    · rw [if_pos em] at e; exact absurd e.symm (nI_ne_m1 (by omega))
    · rw [if_neg em] at e
      rw [leaveG_6' h hm hc, if_neg (fun z => ?_)]
      · exact h.ef.1 m' c hm' hc e
      · have a1 := h.ef.1 m' c hm' hc e
        have a2 := h.ef.1 m c hm hc z
        exact em (nI_inj (by omega) (by omega) (a1.symm.trans a2))
  · rw [leaveG_6' h hm hc]
    by_cases z : g 12 m = nI c
    · exact Or.inl (if_pos z)
    · rw [if_neg z]
      rcases h.ef.2 c hc with q | ⟨m1, hm1, q1, q2⟩
      · exact Or.inl q
      · refine Or.inr ⟨m1, hm1, q1, ?_⟩
        rw [leaveG_12, if_neg (fun (e : m1 = m) => z (by rw [← e]; exact q2))]
        exact q2
theorem leaveN_inv {g : LG} {nc nm n k : Nat} (h : Inv g nc nm n) (hk : k ≤ nm) : Inv (leaveN g k) nc nm n := by
  induction k with
  | zero => exact h
  | succ k ih => exact leaveG_inv (ih (by omega)) (by omega)
/-- there is an outcome -/
theorem DAr_ex {g : LG} {nc nm : Nat} (hF : Fb g nc nm) : ∃ a, DAr g nc nm a := by
  have key : ∀ d a A, TI g nc nm a A → 100 - dcnt A ≤ d → ∃ a, DAr g nc nm a := by
    intro d
    induction d with
    | zero => exact fun a A h hd => ⟨a, A, h, h.full hF (by omega)⟩
    | succ d ih =>
      intro a A h hd
      by_cases e : ∃ c, c < nc ∧ canAskB a c = true
      · obtain ⟨c, hc, hk⟩ := e
        obtain ⟨m, hm, hv, hask⟩ := h.ask hF hc hk
        have hlt := dadd_lt hF hc hm hask.2.1
        by_cases eb : bears g m c = true
        · rcases h.nor hm with q | ⟨c0, h0, q⟩
          · exact ih _ _ (h.move hF hc hm hk hv hask eb (Or.inl q)) (by omega)
          · cases er : rsat g c c0 with
            | true => exact ih _ _ (h.move hF hc hm hk hv hask eb (Or.inr ⟨c0, h0, q, er⟩)) (by omega)
            | false => exact ih _ _ (h.stay hF hc hm hv hask (Or.inr ⟨c0, h0, q, er⟩)) (by omega)
        · exact ih _ _ (h.stay hF hc hm hv hask (Or.inl (by simpa using eb))) (by omega)
      · exact ⟨a, A, h, h.stops hF (fun c hc => by cases q : canAskB a c with | false => rfl | true => exact absurd ⟨c, hc, q⟩ e)⟩
  exact key 100 _ _ (TI_init (a := fun _ _ => 0) hF) (by omega)
theorem DAr_seat {g : LG} {nc nm : Nat} {a : LG} (hF : Fb g nc nm) (h : DAr g nc nm a) {c : Nat} (hc : c < nc) : a 2 c = -1 ∨ ∃ m, m < nm ∧ a 2 c = nI m ∧ a 3 m = nI c ∧ bears g m c = true := by
  obtain ⟨A, hA, -⟩ := h
  have hn := hF.1
  rcases hA.ef.2 c hc with q | ⟨m, hm, q1, q2⟩
  · exact Or.inl q
  · refine Or.inr ⟨m, hm, q1, q2, ?_⟩
    rcases hA.pl m hm with ⟨q, -⟩ | ⟨c1, q3, q4⟩
    · rw [q2] at q; exact absurd q (nI_ne_m1 (by omega))
    · have := (hA.lt q4.1).1
      have := nI_inj (by omega) (by omega) (q2.symm.trans q3)
      subst this
      exact q4.2.1
theorem matS_seat {g : LG} {nc nm : Nat} (hF : Fb g nc nm) {c : Nat} (hc : c < nc) : matS g nc nm c = -1 ∨ ∃ m, m < nm ∧ matS g nc nm c = nI m ∧ ¬ g 3 c = 0 := by
  obtain ⟨a, ha⟩ := DAr_ex hF
  rw [← matS_of hF ha hc]
  rcases DAr_seat hF ha hc with q | ⟨m, hm, q1, q2, q3⟩
  · exact Or.inl q
  · refine Or.inr ⟨m, hm, q1, fun z => ?_⟩
    unfold bears fell at q3
    simp [z] at q3
theorem matS_inj {g : LG} {nc nm : Nat} (hF : Fb g nc nm) {c c' : Nat} (hc : c < nc) (hc' : c' < nc) (h : matS g nc nm c = matS g nc nm c') (h1 : ¬ matS g nc nm c = -1) : c = c' := by
  have hn := hF.1
  have hm10 := hF.2.1
  obtain ⟨a, ha⟩ := DAr_ex hF
  rw [← matS_of hF ha hc, ← matS_of hF ha hc'] at h
  rw [← matS_of hF ha hc] at h1
  rcases DAr_seat hF ha hc with q | ⟨m, hm, q1, q2, -⟩
  · exact absurd q h1
  · rcases DAr_seat hF ha hc' with q | ⟨m', hm', r1, r2, -⟩
    · exact absurd (h.trans q) h1
    · rw [q1, r1] at h
      have := nI_inj (by omega) (by omega) h
      subst this
      exact nI_inj (by omega) (by omega) (q2.symm.trans r2)
theorem seatBy_inv {g : LG} {nc nm n k : Nat} {s : Nat → Int32} (h : Inv g nc nm n) (h6 : ∀ c, c < nc → g 6 c = -1) (h12 : ∀ m, m < nm → g 12 m = -1) (hs : ∀ c, c < nc → s c = -1 ∨ ∃ m, m < nm ∧ s c = nI m ∧ ¬ g 3 c = 0) (hi : ∀ c c', c < nc → c' < nc → s c = s c' → ¬ s c = -1 → c = c') (hk : k ≤ nc) :
    Inv (seatBy s g k) nc nm n ∧ (∀ c, k ≤ c → c < nc → seatBy s g k 6 c = -1) ∧ ∀ m, m < nm → (∀ c, c < k → ¬ s c = nI m) → seatBy s g k 12 m = -1 := by
  have h10 := h.c10
  have h20 := h.m10
  induction k with
  | zero => exact ⟨h, fun c _ hc => h6 c hc, fun m hm _ => h12 m hm⟩
  | succ k ih =>
    obtain ⟨i1, i2, i3⟩ := ih (by omega)
    unfold seatBy
    rcases hs k (by omega) with q | ⟨m, hm, q, q3⟩
    · rw [if_pos q]
      exact ⟨i1, fun c hc hcn => i2 c (by omega) hcn, fun m hm hne => i3 m hm (fun c hc => hne c (by omega))⟩
    · rw [if_neg (by rw [q]; exact nI_ne_m1 (by omega)), q, nI_clamp (by omega)]
      have hfree : seatBy s g k 12 m = -1 := i3 m hm (fun c hc e => by
        have := hi c k (by omega) (by omega) (e.trans q.symm) (by rw [e]; exact nI_ne_m1 (by omega))
        omega)
      refine ⟨sitG_inv i1 (by omega) hm (by rw [seatBy_off (by decide)]; exact q3) (i2 k (Nat.le_refl k) (by omega)) hfree, fun c hc hcn => ?_, fun m' hm' hne => ?_⟩
      · unfold sitG
        rw [gu_ne (by omega), gu_ne (by omega)]
        exact i2 c (by omega) hcn
      · unfold sitG
        rw [gu_r]
        have hne' : ¬ m' = m := fun e => hne k (by omega) (by rw [e]; exact q)
        rw [if_neg (fun z => hne' z.2), gu_ne (by omega)]
        exact i3 m' hm' (fun c hc => hne c (by omega))
theorem seasG_inv {g : LG} {nc nm n : Nat} (h : Inv g nc nm n) : Inv (seasG g) nc nm n := by
  have h10 := h.c10
  have h20 := h.m10
  have h1 := leaveN_inv h (Nat.le_refl nm)
  have h12 : ∀ m, m < nm → leaveN g nm 12 m = -1 := fun m hm => by rw [leaveN_12, if_pos hm]
  have h6 : ∀ c, c < nc → leaveN g nm 6 c = -1 := fun c hc => by
    rcases h1.ef.2 c hc with q | ⟨m, hm, -, q⟩
    · exact q
    · rw [h12 m hm] at q; exact absurd q.symm (nI_ne_m1 (by omega))
  unfold seasG
  rw [h.mNe, h.cNe]
  exact (seatBy_inv h1 h6 h12 (fun c hc => matS_seat (h1.fb) hc) (fun c c' hc hc' => matS_inj h1.fb hc hc') (Nat.le_refl nc)).1
/-- books that the balance does not know -/
theorem books_inv {g : LG} {nc nm n k : Nat} {v : Int32} (h : Inv g nc nm n) (hk : 4 ≤ k ∧ k ≤ 6) : Inv (gu g 14 k v) nc nm n := by
  have e14 : ∀ k', k' ≠ k → gu g 14 k v 14 k' = g 14 k' := fun k' hk' => gu_ne (fun q => hk' q.2)
  have e : ∀ j, j ≠ 14 → gu g 14 k v j = g j := fun j hj => funext fun i => gu_ne (fun q => hj q.1)
  refine ⟨⟨by rw [e14 7 (by omega)]; exact h.nc, by rw [e14 8 (by omega)]; exact h.nm, h.c10, h.m10⟩, fun c hc => (h.ch c hc).of (fun j hj => by rw [e j (by omega)]) (Nat.le_refl n), fun m hm => (h.mu m hm).of (fun j hj hj2 => by rw [e j (by omega)]) (Nat.le_refl nc), by rw [e 12 (by decide), e 6 (by decide)]; exact h.ef, by rw [e14 0 (by omega)]; exact h.lg, h.bl.of (e14 8 (by omega)) (e14 0 (by omega)) (e14 1 (by omega)) (e14 2 (by omega)) (e14 3 (by omega)) (fun m _ => by rw [e 10 (by decide)]), h.le⟩
/-- a chair's own numbers -/
theorem chair_inv {g : LG} {nc nm n c j : Nat} {v : Int32} (h : Inv g nc nm n) (hj : j < 6) (hC : InvC (gu g j c v) n c) : Inv (gu g j c v) nc nm n := by
  have e : ∀ j', j' ≠ j → gu g j c v j' = g j' := fun j' hj' => funext fun i => gu_ne (fun q => hj' q.1)
  refine ⟨⟨by rw [e 14 (by omega)]; exact h.nc, by rw [e 14 (by omega)]; exact h.nm, h.c10, h.m10⟩, fun c' hc => ?_, fun m hm => (h.mu m hm).of (fun j' hj' hj2 => by rw [e j' (by omega)]) (Nat.le_refl nc), by rw [e 12 (by omega), e 6 (by omega)]; exact h.ef, by rw [e 14 (by omega)]; exact h.lg, h.bl.of (by rw [e 14 (by omega)]) (by rw [e 14 (by omega)]) (by rw [e 14 (by omega)]) (by rw [e 14 (by omega)]) (by rw [e 14 (by omega)]) (fun m _ => by rw [e 10 (by omega)]), h.le⟩
  by_cases ec : c' = c
  · subst ec; exact hC
  · exact (h.ch c' hc).of (fun j' _ => gu_ne (fun q => ec q.2)) (Nat.le_refl n)
theorem stand_inv {g : LG} {nc nm n c : Nat} {v : Int32} (h : Inv g nc nm n) (hc : c < nc) (hv : rng v 0 3) (h6 : v = 0 → g 6 c = -1) : Inv (gu g 3 c v) nc nm n := by
  refine chair_inv h (by decide) ?_
  obtain ⟨q0, q1, q2, q3, q4, q5, q6⟩ := h.ch c hc
  unfold InvC
  rw [gu_ne (by omega), gu_ne (by omega), gu_ne (by omega), gu_same, gu_ne (by omega), gu_ne (by omega), gu_ne (by omega)]
  exact ⟨q0, q1, q2, hv, q4, q5, h6⟩
theorem tier_inv {g : LG} {nc nm n c : Nat} {v : Int32} (h : Inv g nc nm n) (hc : c < nc) (hv : rng v 0 2) : Inv (gu g 4 c v) nc nm n := by
  refine chair_inv h (by decide) ?_
  obtain ⟨q0, q1, q2, q3, q4, q5, q6⟩ := h.ch c hc
  unfold InvC
  rw [gu_ne (by omega), gu_ne (by omega), gu_ne (by omega), gu_ne (by omega), gu_same, gu_ne (by omega), gu_ne (by omega)]
  exact ⟨q0, q1, q2, q3, hv, q5, q6⟩
theorem cushion_inv {g : LG} {nc nm n c : Nat} {v : Int32} (h : Inv g nc nm n) (hc : c < nc) (hv : rng v 0 9) : Inv (gu g 2 c v) nc nm n := by
  refine chair_inv h (by decide) ?_
  obtain ⟨q0, q1, q2, q3, q4, q5, q6⟩ := h.ch c hc
  unfold InvC
  rw [gu_ne (by omega), gu_ne (by omega), gu_same, gu_ne (by omega), gu_ne (by omega), gu_ne (by omega), gu_ne (by omega)]
  exact ⟨q0, q1, hv, q3, q4, q5, q6⟩
/-- a musician's own numbers, but for the coins -/
theorem mus_inv {g : LG} {nc nm n m j : Nat} {v : Int32} (h : Inv g nc nm n) (hj : j = 11 ∨ j = 13) (hM : InvM (gu g j m v) nc m) : Inv (gu g j m v) nc nm n := by
  have e : ∀ j', j' ≠ j → gu g j m v j' = g j' := fun j' hj' => funext fun i => gu_ne (fun q => hj' q.1)
  refine ⟨⟨by rw [e 14 (by omega)]; exact h.nc, by rw [e 14 (by omega)]; exact h.nm, h.c10, h.m10⟩, fun c hc => (h.ch c hc).of (fun j' hj' => by rw [e j' (by omega)]) (Nat.le_refl n), fun m' hm => ?_, by rw [e 12 (by omega), e 6 (by omega)]; exact h.ef, by rw [e 14 (by omega)]; exact h.lg, h.bl.of (by rw [e 14 (by omega)]) (by rw [e 14 (by omega)]) (by rw [e 14 (by omega)]) (by rw [e 14 (by omega)]) (by rw [e 14 (by omega)]) (fun m _ => by rw [e 10 (by omega)]), h.le⟩
  by_cases ec : m' = m
  · subst ec; exact hM
  · exact (h.mu m' hm).of (fun j' _ _ => gu_ne (fun q => ec q.2)) (Nat.le_refl nc)
theorem bid_inv {g : LG} {nc nm n m : Nat} {v : Int32} (h : Inv g nc nm n) (hm : m < nm) (hv : rng v 0 99) (hle : v ≤ g 10 m) (hs : ¬ g 12 m = -1) : Inv (gu g 11 m v) nc nm n := by
  refine mus_inv h (Or.inl rfl) ?_
  obtain ⟨q0, q1, q2, q3, q4, q5, q6, q7⟩ := h.mu m hm
  unfold InvM
  rw [gu_ne (by omega), gu_ne (by omega), gu_ne (by omega), gu_ne (by omega), gu_same, gu_ne (by omega)]
  exact ⟨q0, q1, q2, q3, hv, hle, fun z => absurd z hs, q7⟩
theorem noBids_11 {g : LG} {n k : Nat} : noBids g n 11 k = if k < n then 0 else g 11 k := by
  induction n with
  | zero => rfl
  | succ n ih =>
    unfold noBids
    rw [gu_r, ih]
    by_cases e : k = n
    · rw [if_pos ⟨rfl, e⟩, if_pos (by omega)]
    · rw [if_neg (fun z => e z.2)]
      by_cases q : k < n
      · rw [if_pos q, if_pos (by omega)]
      · rw [if_neg q, if_neg (by omega)]
theorem noBids_inv {g : LG} {nc nm n k : Nat} (h : Inv g nc nm n) (hk : k ≤ nm) : Inv (noBids g k) nc nm n := by
  induction k with
  | zero => exact h
  | succ k ih =>
    have ih := ih (by omega)
    unfold noBids
    refine mus_inv ih (Or.inl rfl) ?_
    obtain ⟨q0, q1, q2, q3, q4, q5, q6, q7⟩ := ih.mu k (by omega)
    obtain ⟨x, -, hx, ex⟩ := q3
    unfold InvM
    rw [gu_ne (by omega), gu_ne (by omega), gu_ne (by omega), gu_ne (by omega), gu_same, gu_ne (by omega)]
    exact ⟨q0, q1, q2, ⟨x, by omega, hx, ex⟩, ⟨0, by omega, by omega, rfl⟩, by rw [ex]; exact nI_le (a := 0) (Nat.zero_le x) (by omega), fun _ => rfl, q7⟩
theorem price_rng {g : LG} {nc nm n b : Nat} (h : Inv g nc nm n) (hb : b < nm) (hbu : buyer g = nI b) : (rng (price g) 0 99 ∧ price g ≤ g 11 b) ∧ g 11 b ≠ 0 := by
  have h20 := h.m10
  have hr : ∀ m, m < nm → rng (g 11 m) 0 99 := fun m hm => (h.mu m hm).2.2.2.2.1
  have hmx : g 11 b ≠ 0 ∧ ∀ m, m < nm → g 11 m ≤ g 11 b := by
    unfold buyer at hbu
    rw [h.mNe] at hbu
    rcases highB_spec (but := -1) hr with ⟨q, -⟩ | ⟨b', hb', q, -, q2, q3⟩
    · rw [q] at hbu; exact absurd hbu.symm (nI_ne_m1 (by omega))
    · rw [q] at hbu
      have := nI_inj (by omega) (by omega) hbu
      subst this
      exact ⟨q2, fun m hm => q3 m hm (nI_ne_m1 (by omega))⟩
  refine ⟨?_, hmx.1⟩
  unfold price
  split
  · obtain ⟨x, -, hx, ex⟩ := hr b hb
    exact ⟨⟨0, by omega, by omega, rfl⟩, by rw [ex]; exact nI_le (a := 0) (Nat.zero_le x) (by omega)⟩
  · next hne =>
    have hno : nOr (nextB g) nm := by unfold nextB; rw [h.mNe]; exact highB_no
    rcases hno with q | ⟨k, hk, q⟩
    · exact absurd q hne
    · rw [q, nI_clamp (by omega)]
      exact ⟨hr k hk, hmx.2 k hk⟩
/-- coins from a musician to the league -/
theorem pay_inv {g : LG} {nc nm n b : Nat} {p : Int32} (h : Inv g nc nm n) (hn : n < 100000) (hb : b < nm) (hp : rng p 0 99) (hle : p ≤ g 10 b) (h0 : ∀ m, m < nm → g 11 m = 0) : Inv (gu (gu g 10 b (g 10 b + -p)) 14 0 (g 14 0 + p)) nc nm (n + 1) := by
  have e : ∀ j, j ≠ 10 → j ≠ 14 → gu (gu g 10 b (g 10 b + -p)) 14 0 (g 14 0 + p) j = g j := fun j h1 h2 => funext fun i => by rw [gu_ne (fun q => h2 q.1), gu_ne (fun q => h1 q.1)]
  have e14 : ∀ k, k ≠ 0 → gu (gu g 10 b (g 10 b + -p)) 14 0 (g 14 0 + p) 14 k = g 14 k := fun k hk => by rw [gu_ne (fun q => hk q.2), gu_ne (by omega)]
  have e10 : ∀ m, gu (gu g 10 b (g 10 b + -p)) 14 0 (g 14 0 + p) 10 m = if m = b then g 10 b + -p else g 10 m := fun m => by
    rw [gu_ne (by omega), gu_r]
    by_cases z : m = b <;> simp [z]
  obtain ⟨x, -, hx, ex⟩ := hp
  obtain ⟨y, -, hy, ey⟩ := (h.mu b hb).2.2.2.1
  have hxy : x ≤ y := by
    rw [ex, ey, Int32.le_iff_toInt_le, nI_toInt (by omega), nI_toInt (by omega)] at hle
    omega
  have hnew : g 10 b + -p = nI (y - x) := by rw [← Int32.sub_eq_add_neg, ex, ey, nI_sub hxy]
  refine ⟨⟨by rw [e14 7 (by decide)]; exact h.nc, by rw [e14 8 (by decide)]; exact h.nm, h.c10, h.m10⟩, fun c hc => (h.ch c hc).of (fun j hj => by rw [e j (by omega) (by omega)]) (by omega), fun m hm => ?_, by rw [e 12 (by decide) (by decide), e 6 (by decide) (by decide)]; exact h.ef, ?_, ?_, by omega⟩
  · obtain ⟨q0, q1, q2, q3, q4, q5, q6, q7⟩ := h.mu m hm
    unfold InvM
    rw [e 7 (by decide) (by decide), e 8 (by decide) (by decide), e 9 (by decide) (by decide), e 11 (by decide) (by decide), e 12 (by decide) (by decide), e10]
    by_cases z : m = b
    · rw [if_pos z, hnew]
      exact ⟨q0, q1, q2, ⟨y - x, by omega, by omega, rfl⟩, q4, by rw [h0 m hm]; exact nI_le (a := 0) (Nat.zero_le _) (by omega), q6, q7⟩
    · rw [if_neg z]
      exact ⟨q0, q1, q2, q3, q4, q5, q6, q7⟩
  · obtain ⟨z, -, hz, ez⟩ := h.lg
    rw [gu_same, ez, ex, nI_add]
    exact ⟨z + x, by omega, by omega, rfl⟩
  · have hbl := h.bl
    unfold bal at hbl ⊢
    rw [e14 8 (by decide), e14 1 (by decide), e14 2 (by decide), e14 3 (by decide), gu_same, sumI_add (f := g 10) (d := -p) hb (fun k _ => e10 k)]
    grind
theorem gu_comm {g : LG} {j k j' k' : Nat} {v v' : Int32} (h : ¬ (j = j' ∧ k = k')) : gu (gu g j k v) j' k' v' = gu (gu g j' k' v') j k v := by
  funext a b
  simp only [gu]
  split
  · next q =>
    rw [if_neg (fun z => h ⟨z.1.symm.trans q.1, z.2.symm.trans q.2⟩)]
  · rfl
theorem noBids_gu {g : LG} {j k n : Nat} {v : Int32} (h : j ≠ 11) : noBids (gu g j k v) n = gu (noBids g n) j k v := by
  induction n with
  | zero => rfl
  | succ n ih =>
    show gu (noBids (gu g j k v) n) 11 n 0 = gu (gu (noBids g n) 11 n 0) j k v
    rw [ih, gu_comm (fun q => h q.1)]
theorem sell_inv {g : LG} {nc nm n : Nat} {v : Int32} (h : Inv g nc nm n) (hn : n < 100000) (hv : rng v 1 9) (hb : ¬ buyer g = -1) : Inv (sellG g v) nc nm (n + 1) := by
  have h10 := h.c10
  have h20 := h.m10
  obtain ⟨b, hbn, hbu⟩ : ∃ b, b < nm ∧ buyer g = nI b := by
    have : nOr (buyer g) nm := by unfold buyer; rw [h.mNe]; exact highB_no
    exact this.resolve_left hb
  obtain ⟨⟨hp, hpl⟩, hz⟩ := price_rng h hbn hbu
  obtain ⟨kc, hkc, hpc⟩ : ∃ k, k < nc ∧ g 12 b = nI k := (h.nor12 hbn).resolve_left (fun q => hz ((h.mu b hbn).2.2.2.2.2.2.1 q))
  have h1 := noBids_inv h (Nat.le_refl nm)
  have hle : price g ≤ noBids g nm 10 b := by
    rw [noBids_off (by decide)]
    have := (h.mu b hbn).2.2.2.2.2.1
    rw [Int32.le_iff_toInt_le] at this hpl ⊢
    omega
  have h2 := pay_inv h1 hn hbn hp hle (fun m hm => by rw [noBids_11, if_pos hm])
  rw [noBids_off (by decide), noBids_off (by decide)] at h2
  have h3 := cushion_inv h2 hkc (hv.mono (by omega) (Nat.le_refl 9))
  have h4 := books_inv (k := 6) (v := g 14 6 + 1) h3 (by omega)
  rw [sellG_eq h hbu (by omega) hpc (by omega), noBids_gu (by decide), noBids_gu (by decide), noBids_gu (by decide)]
  exact h4
theorem raise_inv {g : LG} {nc nm n : Nat} (h : Inv g nc nm n) (hl : ¬ g 14 0 < 2) : Inv (gu (gu g 14 0 (g 14 0 - 2)) 14 2 (g 14 2 + 2)) nc nm n := by
  have e : ∀ j, j ≠ 14 → gu (gu g 14 0 (g 14 0 - 2)) 14 2 (g 14 2 + 2) j = g j := fun j h1 => funext fun i => by rw [gu_ne (fun q => h1 q.1), gu_ne (fun q => h1 q.1)]
  have e14 : ∀ k, k ≠ 0 → k ≠ 2 → gu (gu g 14 0 (g 14 0 - 2)) 14 2 (g 14 2 + 2) 14 k = g 14 k := fun k h1 h2 => by rw [gu_ne (fun q => h2 q.2), gu_ne (fun q => h1 q.2)]
  have e0 : gu (gu g 14 0 (g 14 0 - 2)) 14 2 (g 14 2 + 2) 14 0 = g 14 0 - 2 := by rw [gu_ne (by omega), gu_same]
  refine ⟨⟨by rw [e14 7 (by decide) (by decide)]; exact h.nc, by rw [e14 8 (by decide) (by decide)]; exact h.nm, h.c10, h.m10⟩, fun c hc => (h.ch c hc).of (fun j hj => by rw [e j (by omega)]) (by omega), fun m hm => (h.mu m hm).of (fun j hj hj2 => by rw [e j (by omega)]) (Nat.le_refl nc), by rw [e 12 (by decide), e 6 (by decide)]; exact h.ef, ?_, ?_, h.le⟩
  · obtain ⟨z, -, hz, ez⟩ := h.lg
    have hle := h.le
    rw [ez, Int32.lt_iff_toInt_lt, nI_toInt (by omega)] at hl
    have hl : ¬ ((z : Int) < 2) := hl
    rw [e0, ez, show (2 : Int32) = nI 2 from rfl, nI_sub (by omega)]
    exact ⟨z - 2, by omega, by omega, rfl⟩
  · have hbl := h.bl
    unfold bal at hbl ⊢
    rw [e14 8 (by decide) (by decide), e14 1 (by decide) (by decide), e14 3 (by decide) (by decide), gu_same, e0, e 10 (by decide)]
    grind
/-- paid for playing -/
theorem payC_rng {g : LG} {nc nm n c m : Nat} (h : Inv g nc nm n) (hc : c < nc) (hm : m < nm) : rng (payC g c m) 0 4 := by
  obtain ⟨k, h1, hk, e⟩ := h.fitk hc hm
  unfold payC
  rw [e]
  exact ⟨k / 3, by omega, by omega, pk_div (a := k) (d := 3) (by omega) (by omega) (by omega)⟩
theorem keptC_rng {g : LG} {nc nm n c m : Nat} (h : Inv g nc nm n) (hc : c < nc) (hm : m < nm) : rng (g 10 m + keptC g c m) 0 99 ∧ g 10 m ≤ g 10 m + keptC g c m := by
  obtain ⟨p, -, hp, ep⟩ := payC_rng h hc hm
  obtain ⟨x, -, hx, ex⟩ := (h.mu m hm).2.2.2.1
  have e99 : (99 : Int32) - g 10 m = nI (99 - x) := by rw [ex, show (99 : Int32) = nI 99 from rfl, nI_sub hx]
  unfold keptC
  rw [e99, ep, ex]
  split
  · rw [nI_add]
    exact ⟨⟨x + (99 - x), by omega, by omega, rfl⟩, nI_le (by omega) (by omega)⟩
  · next q =>
    have : ¬ 99 - x < p := fun z => q (nI_lt z (by omega))
    rw [nI_add]
    exact ⟨⟨x + p, by omega, by omega, rfl⟩, nI_le (by omega) (by omega)⟩
theorem play_inv {g : LG} {nc nm n c m : Nat} (h : Inv g nc nm (n + 1)) (hc : c < nc) (hm : m < nm) (hmk : rng (g 5 c) 0 (13 * n)) : Inv (playG g c m) nc nm (n + 1) := by
  have hle := h.le
  have e : ∀ j, j ≠ 5 → j ≠ 10 → j ≠ 13 → j ≠ 14 → playG g c m j = g j := fun j h1 h2 h3 h4 => funext fun i => playG_off ⟨h1, h2, h3, fun z => absurd z h4⟩
  have e14 : ∀ k, k ≠ 1 → k ≠ 3 → playG g c m 14 k = g 14 k := fun k h1 h3 => playG_off ⟨by decide, by decide, by decide, fun _ => ⟨h1, h3⟩⟩
  have e10 : ∀ i, playG g c m 10 i = if i = m then g 10 m + keptC g c m else g 10 i := fun i => by
    unfold playG
    rw [gu_ne (by omega), gu_ne (by omega), gu_ne (by omega), gu_ne (by omega), gu_r]
    by_cases z : i = m <;> simp [z]
  have e5 : ∀ i, playG g c m 5 i = if i = c then g 5 c + fit g c m else g 5 i := fun i => by
    unfold playG
    rw [gu_r]
    by_cases z : i = c
    · simp [z]
    · rw [if_neg (fun q => z q.2), if_neg z, gu_ne (by omega), gu_ne (by omega), gu_ne (by omega), gu_ne (by omega)]
  have hk := keptC_rng h hc hm
  refine ⟨⟨by rw [e14 7 (by decide) (by decide)]; exact h.nc, by rw [e14 8 (by decide) (by decide)]; exact h.nm, h.c10, h.m10⟩, fun c' hc' => ?_, fun m' hm' => ?_, by rw [e 12 (by decide) (by decide) (by decide) (by decide), e 6 (by decide) (by decide) (by decide) (by decide)]; exact h.ef, by rw [e14 0 (by decide) (by decide)]; exact h.lg, ?_, hle⟩
  · obtain ⟨q0, q1, q2, q3, q4, q5, q6⟩ := h.ch c' hc'
    unfold InvC
    rw [e 0 (by decide) (by decide) (by decide) (by decide), e 1 (by decide) (by decide) (by decide) (by decide), e 2 (by decide) (by decide) (by decide) (by decide), e 3 (by decide) (by decide) (by decide) (by decide), e 4 (by decide) (by decide) (by decide) (by decide), e 6 (by decide) (by decide) (by decide) (by decide), e5]
    refine ⟨q0, q1, q2, q3, q4, ?_, q6⟩
    by_cases z : c' = c
    · rw [if_pos z]
      obtain ⟨x, -, hx, ex⟩ := hmk
      obtain ⟨k, h1, hk, ek⟩ := h.fitk hc hm
      rw [ex, ek, nI_add]
      exact ⟨x + k, by omega, by omega, rfl⟩
    · rw [if_neg z]; exact q5
  · obtain ⟨q0, q1, q2, q3, q4, q5, q6, q7⟩ := h.mu m' hm'
    unfold InvM
    rw [e 7 (by decide) (by decide) (by decide) (by decide), e 8 (by decide) (by decide) (by decide) (by decide), e 9 (by decide) (by decide) (by decide) (by decide), e 11 (by decide) (by decide) (by decide) (by decide), e 12 (by decide) (by decide) (by decide) (by decide), e10]
    by_cases z : m' = m
    · subst z
      rw [if_pos rfl]
      refine ⟨q0, q1, q2, hk.1, q4, ?_, q6, q7⟩
      have hk2 := hk.2
      rw [Int32.le_iff_toInt_le] at q5 hk2 ⊢
      omega
    · rw [if_neg z]
      exact ⟨q0, q1, q2, q3, q4, q5, q6, q7⟩
  · have hbl := h.bl
    have p1 : playG g c m 14 1 = g 14 1 + payC g c m := by
      unfold playG
      rw [gu_ne (by omega), gu_ne (by omega), gu_same]
    have p3 : playG g c m 14 3 = g 14 3 + (payC g c m - keptC g c m) := by
      unfold playG
      rw [gu_ne (by omega), gu_same]
    unfold bal at hbl ⊢
    rw [e14 8 (by decide) (by decide), e14 0 (by decide) (by decide), e14 2 (by decide) (by decide), p1, p3, sumI_add (f := g 10) (d := keptC g c m) hm (fun k _ => e10 k)]
    grind
theorem standW_k : ∀ x, x < 4 → ∀ y, y < 5 → (if nI x - nI y < 0 then (0 : Int32) else nI x - nI y) = nI (x - y) := by decide +kernel
theorem wear_inv {g : LG} {nc nm n c m : Nat} {w : Int32} (h : Inv g nc nm n) (hc : c < nc) (hm : m < nm) (h6 : g 6 c = nI m) (h12 : g 12 m = nI c) (hw : rng w 1 4) : Inv (wearG g c w) nc nm n := by
  have h10 := h.c10
  have h20 := h.m10
  obtain ⟨x, -, hx, ex⟩ := (h.ch c hc).2.2.2.1
  have hy : ∃ y, y ≤ 4 ∧ wearOf g c w = nI y := by
    obtain ⟨y, -, hy, ey⟩ := hw
    unfold wearOf
    split
    · split
      · split
        · exact ⟨1, by omega, rfl⟩
        · exact ⟨0, by omega, rfl⟩
      · exact ⟨y, hy, ey⟩
    · exact ⟨0, by omega, rfl⟩
  obtain ⟨y, hy, ey⟩ := hy
  have hs : standW g c w = nI (x - y) := by unfold standW; rw [ex, ey]; exact standW_k x (by omega) y (by omega)
  unfold wearG
  split
  · have hwho : who g c = m := by unfold who; rw [h6, nI_clamp (by omega)]
    rw [hwho]
    have e : leaveG (gu g 3 c 0) m = gu (leaveG g m) 3 c 0 := by
      unfold leaveG
      rw [gu_ne (by omega), h12]
      unfold unsit
      rw [if_neg (nI_ne_m1 (by omega)), nI_clamp (by omega), gu_comm (k := c) (j := 3) (j' := 6) (by omega), gu_comm (k := c) (j := 3) (j' := 12) (by omega), gu_comm (k := c) (j := 3) (j' := 11) (by omega), if_neg (nI_ne_m1 (by omega))]
    rw [e]
    refine stand_inv (leaveG_inv h hm) hc ⟨0, by omega, by omega, rfl⟩ (fun _ => ?_)
    rw [leaveG_6' h hm hc, if_pos h12]
  · next q =>
    rw [hs]
    exact stand_inv h hc ⟨x - y, by omega, by omega, rfl⟩ (fun z => absurd (hs.trans z) q)
theorem conC_inv {g : LG} {nc nm n i : Nat} {w : Int32} (h : Inv g nc nm n) (hn : n < 100000) (hw : rng w 1 4) (hi : i ≤ nc) : Inv (conC g w i).1 nc nm (n + 1) ∧ (∀ c, i ≤ c → (conC g w i).1 5 c = g 5 c) ∧ ∃ k, k ≤ 13 * i ∧ (conC g w i).2 = nI k := by
  have h10 := h.c10
  have h20 := h.m10
  induction i with
  | zero => exact ⟨h.succ (by omega) (by omega), fun _ _ => rfl, 0, by omega, rfl⟩
  | succ i ih =>
    obtain ⟨i1, i2, k, hk, ek⟩ := ih (by omega)
    unfold conC
    split
    · next ht =>
      obtain ⟨m, hm, q6, q12⟩ := conC_taken (w := w) h (show i < nc by omega) ht
      have hwho : who (conC g w i).1 i = m := by unfold who; rw [q6, nI_clamp (by omega)]
      rw [hwho]
      have hmk : rng ((conC g w i).1 5 i) 0 (13 * n) := by rw [i2 i (Nat.le_refl i)]; exact (h.ch i (by omega)).2.2.2.2.2.1
      have hp := play_inv i1 (show i < nc by omega) hm hmk
      obtain ⟨f, hf1, hf, ef⟩ := i1.fitk (show i < nc by omega) hm
      refine ⟨wear_inv hp (by omega) hm (by rw [playG_6]; exact q6) (by rw [playG_12]; exact q12) hw, fun c hc => ?_, k + f, by omega, by show (conC g w i).2 + fit (conC g w i).1 i m = _; rw [ek, ef, nI_add]⟩
      show wearG (playG (conC g w i).1 i m) i w 5 c = g 5 c
      rw [wearG_off (by decide)]
      unfold playG
      rw [gu_ne (by omega), gu_ne (by omega), gu_ne (by omega), gu_ne (by omega), gu_ne (by omega)]
      exact i2 c (by omega)
    · exact ⟨i1, fun c hc => i2 c (by omega), k, by omega, ek⟩
/-! all changes -/
def Kp (n : Nat) (o : Chg) : Prop := ∃ nc nm, Inv o.2.1 nc nm (n + 1)
theorem Kp.same {g : LG} {nc nm n : Nat} {v : Int32} {rs : Rs} (h : Inv g nc nm n) (hn : n < 100000) : Kp n (v, g, rs) := ⟨nc, nm, h.succ (by omega) (by omega)⟩
theorem Kp.new {g : LG} {nc nm n : Nat} {v : Int32} {rs : Rs} (h : Inv g nc nm n) (hn : n < 100000) : Kp n (v, g, rs) := ⟨nc, nm, h.succ (by omega) (by omega)⟩
theorem and_ff {a b : Bool} (h : ¬ (a && b) = false) : a = true ∧ b = true := by simpa using h
theorem oBringC_kp {g : LG} {rs : Rs} {s d : Int32} {nc nm n : Nat} (h : Inv g nc nm n) (hn : n < 100000) : Kp n (oBringC g rs s d) := by
  unfold oBringC
  split
  · exact Kp.same h hn
  · next q =>
    split
    · exact Kp.same h hn
    · next q2 =>
      rw [h.cNe] at q2 ⊢
      have hb := and_ff q
      exact Kp.new (bringC_inv h (by omega) (inB_rng (lo := 0) (hi := 3) hb.1 (by omega) (by omega)) (inB_rng (lo := 1) (hi := 9) hb.2 (by omega) (by omega))) hn
theorem oBringM_kp {g : LG} {rs : Rs} {s k d : Int32} {nc nm n : Nat} (h : Inv g nc nm n) (hn : n < 100000) : Kp n (oBringM g rs s k d) := by
  unfold oBringM
  split
  · exact Kp.same h hn
  · next q =>
    split
    · exact Kp.same h hn
    · next q2 =>
      rw [h.mNe] at q2 ⊢
      have hb := and_ff q
      have hb2 := and_ff (fun z => by rw [hb.1] at z; cases z)
      have hb1 : inB s 0 3 = true ∧ inB k 1 9 = true := by simpa using hb.1
      exact Kp.new (bringM_inv h (by omega) (inB_rng (lo := 0) (hi := 3) hb1.1 (by omega) (by omega)) (inB_rng (lo := 1) (hi := 9) hb1.2 (by omega) (by omega)) (inB_rng (lo := 0) (hi := 9) hb.2 (by omega) (by omega))) hn
theorem not_false_t {b : Bool} (h : ¬ b = false) : b = true := by simpa using h
theorem oSeat_kp {g : LG} {rs : Rs} {x y : Int32} {nc nm n : Nat} (h : Inv g nc nm n) (hn : n < 100000) : Kp n (oSeat g rs x y) := by
  have h10 := h.c10
  have h20 := h.m10
  unfold oSeat
  split
  · exact Kp.same h hn
  · next q =>
    have hb := and_ff q
    rw [h.cNe, h.mNe] at hb
    obtain ⟨c, hc, rfl⟩ := inR_of hb.1 (by omega)
    obtain ⟨m, hm, rfl⟩ := inR_of hb.2 (by omega)
    rw [nI_clamp (by omega), nI_clamp (by omega)]
    unfold oSeatN
    split
    · exact Kp.same h hn
    · next q1 =>
      split
      · exact Kp.same h hn
      · next q2 =>
        split
        · exact Kp.same h hn
        · next q3 =>
          split
          · exact Kp.same h hn
          · split
            · exact Kp.same h hn
            · unfold fell at q1
              unfold taken at q2
              unfold sits at q3
              exact Kp.new (sitG_inv h hc hm (by simpa using q1) (by simpa using q2) (by simpa using q3)) hn
theorem oRise_kp {g : LG} {rs : Rs} {y : Int32} {nc nm n : Nat} (h : Inv g nc nm n) (hn : n < 100000) : Kp n (oRise g rs y) := by
  have h20 := h.m10
  unfold oRise
  split
  · exact Kp.same h hn
  · next q =>
    have hb := not_false_t q
    rw [h.mNe] at hb
    obtain ⟨m, hm, rfl⟩ := inR_of hb (by omega)
    rw [nI_clamp (by omega)]
    unfold oRiseN
    split
    · exact Kp.same h hn
    · exact Kp.new (leaveG_inv h hm) hn
theorem oSeason_kp {g : LG} {rs : Rs} {nc nm n : Nat} (h : Inv g nc nm n) (hn : n < 100000) : Kp n (oSeason g rs) := Kp.new (books_inv (seasG_inv h) (by omega)) hn
theorem oBid_kp {g : LG} {rs : Rs} {y v : Int32} {nc nm n : Nat} (h : Inv g nc nm n) (hn : n < 100000) : Kp n (oBid g rs y v) := by
  have h20 := h.m10
  unfold oBid
  split
  · exact Kp.same h hn
  · next q =>
    have hb := not_false_t q
    rw [h.mNe] at hb
    obtain ⟨m, hm, rfl⟩ := inR_of hb (by omega)
    rw [nI_clamp (by omega)]
    unfold oBidN
    split
    · exact Kp.same h hn
    · next q1 =>
      split
      · exact Kp.same h hn
      · next q2 =>
        split
        · exact Kp.same h hn
        · next q3 => exact Kp.new (bid_inv h hm (inB_rng (lo := 0) (hi := 99) (not_false_t q1) (by omega) (by omega)) (i32_nlt.mp q3) (sits_ne (not_false_t q2))) hn
theorem oSell_kp {g : LG} {rs : Rs} {v : Int32} {nc nm n : Nat} (h : Inv g nc nm n) (hn : n < 100000) : Kp n (oSell g rs v) := by
  unfold oSell
  split
  · exact Kp.same h hn
  · next q1 =>
    split
    · exact Kp.same h hn
    · next q2 => exact ⟨nc, nm, sell_inv h hn (inB_rng (lo := 1) (hi := 9) (not_false_t q1) (by omega) (by omega)) q2⟩
theorem oConcert_kp {g : LG} {rs : Rs} {v : Int32} {nc nm n : Nat} (h : Inv g nc nm n) (hn : n < 100000) : Kp n (oConcert g rs v) := by
  unfold oConcert
  split
  · exact Kp.same h hn
  · next q1 =>
    split
    · exact Kp.same h hn
    · rw [h.cNe]
      exact ⟨nc, nm, books_inv (conC_inv h hn (inB_rng (lo := 1) (hi := 4) (not_false_t q1) (by omega) (by omega)) (Nat.le_refl nc)).1 (by omega)⟩
theorem oRaise_kp {g : LG} {rs : Rs} {x : Int32} {nc nm n : Nat} (h : Inv g nc nm n) (hn : n < 100000) : Kp n (oRaise g rs x) := by
  have h10 := h.c10
  unfold oRaise
  split
  · exact Kp.same h hn
  · next q =>
    have hb := not_false_t q
    rw [h.cNe] at hb
    obtain ⟨c, hc, rfl⟩ := inR_of hb (by omega)
    rw [nI_clamp (by omega)]
    unfold oRaiseN
    split
    · exact Kp.same h hn
    · split
      · exact Kp.same h hn
      · next q2 =>
        have h1 := stand_inv (v := 3) h hc ⟨3, by omega, by omega, rfl⟩ (fun z => absurd z (by decide))
        have e0 : gu g 3 c 3 14 0 = g 14 0 := gu_ne (by omega)
        have e2 : gu g 3 c 3 14 2 = g 14 2 := gu_ne (by omega)
        have h2 := raise_inv h1 (by rw [e0]; exact q2)
        rw [e0, e2] at h2
        exact Kp.new h2 hn
theorem oPromote_kp {g : LG} {rs : Rs} {x : Int32} {nc nm n : Nat} (h : Inv g nc nm n) (hn : n < 100000) : Kp n (oPromote g rs x) := by
  have h10 := h.c10
  unfold oPromote
  split
  · exact Kp.same h hn
  · next q =>
    have hb := not_false_t q
    rw [h.cNe] at hb
    obtain ⟨c, hc, rfl⟩ := inR_of hb (by omega)
    rw [nI_clamp (by omega)]
    unfold oPromoteN
    split
    · exact Kp.same h hn
    · next q1 =>
      split
      · exact Kp.same h hn
      · obtain ⟨k, -, hk, ek⟩ := (h.ch c hc).2.2.2.2.1
        rw [ek] at q1 ⊢
        have : ¬ (2 ≤ k) := fun z => q1 (nI_le (a := 2) z (by omega))
        exact Kp.new (tier_inv h hc ⟨k + 1, by omega, by omega, nI_1 k⟩) hn
theorem oOrder_kp {g : LG} {rs : Rs} {o : Ord} {nc nm n : Nat} (h : Inv g nc nm n) (hn : n < 100000) : Kp n (oOrder g rs o) := by
  unfold oOrder
  split
  · exact oBringC_kp h hn
  split
  · exact oBringM_kp h hn
  split
  · exact oSeat_kp h hn
  split
  · exact oRise_kp h hn
  split
  · exact oSeason_kp h hn
  split
  · exact oBid_kp h hn
  split
  · exact oSell_kp h hn
  split
  · exact oConcert_kp h hn
  split
  · exact oRaise_kp h hn
  split
  · exact oPromote_kp h hn
  · exact Kp.same h hn
