/-! ===== a concert ===== -/
theorem standW_eq {g h : LG} {c : Nat} {w : Int32} (h3 : h 3 c = g 3 c) (h6 : h 6 c = g 6 c) (h1 : h 1 c = g 1 c) (h8 : h 8 = g 8) : standW h c w = standW g c w := by
  unfold standW wearOf taken who
  rw [h3, h6, h1, h8]
theorem wearG_3 {h : LG} {n c : Nat} {w : Int32} : wearG h n w 3 c = if c = n then standW h n w else h 3 c := by
  unfold wearG
  split
  · next e =>
    rw [leaveG_off (by decide), gu_r, e]
    simp
  · rw [gu_r]; simp
theorem leaveG_6x {h : LG} {m n c : Nat} (h12 : h 12 m = nI n) (hn : n < 10) : leaveG h m 6 c = if c = n then -1 else h 6 c := by
  unfold leaveG
  rw [gu_ne (by omega), gu_ne (by omega)]
  unfold unsit
  rw [h12, if_neg (nI_ne_m1 (by omega)), gu_r, nI_clamp (by omega)]
  simp
theorem wearG_6 {h : LG} {n c : Nat} {w : Int32} (h12 : h 12 (who h n) = nI n) (hn : n < 10) : wearG h n w 6 c = if c = n ∧ standW h n w = 0 then -1 else h 6 c := by
  unfold wearG
  split
  · next e =>
    rw [leaveG_6x (n := n) (by rw [gu_ne (by omega)]; exact h12) hn, gu_ne (by omega)]
    simp [e]
  · next e => rw [gu_ne (by omega), if_neg (fun q => e q.2)]
def paySum (g : LG) : Nat → Int32
  | 0 => 0
  | c + 1 => if taken g c then paySum g c + payC g c (who g c) else paySum g c
theorem i32_assoc (a b c : Int32) : a + b + c = a + (b + c) := Int32.add_assoc a b c
theorem conC_rows {g : LG} {nc nm n : Nat} {w : Int32} (h : Inv g nc nm n) (hn : n < 100000) (hw : rng w 1 4) {i : Nat} (hi : i ≤ nc) :
    (∀ c, c < nc → (conC g w i).1 3 c = if c < i ∧ taken g c = true then standW g c w else g 3 c) ∧ (∀ c, c < nc → (conC g w i).1 6 c = if c < i ∧ taken g c = true ∧ standW g c w = 0 then -1 else g 6 c) ∧ (conC g w i).2 = fitSum g i ∧ (conC g w i).1 14 1 = g 14 1 + paySum g i := by
  have h10 := h.c10
  have m10 := h.m10
  induction i with
  | zero => exact ⟨fun c _ => by rw [if_neg (fun q => absurd q.1 (Nat.not_lt_zero c))]; rfl, fun c _ => by rw [if_neg (fun q => absurd q.1 (Nat.not_lt_zero c))]; rfl, rfl, by show g 14 1 = g 14 1 + 0; simp⟩
  | succ i ih =>
    obtain ⟨i3, i6, iA, iP⟩ := ih (by omega)
    obtain ⟨hG, -, -⟩ := conC_inv h hn hw (show i ≤ nc by omega)
    have e6 : (conC g w i).1 6 i = g 6 i := by rw [i6 i (by omega), if_neg (fun q => absurd q.1 (by omega))]
    have e3 : (conC g w i).1 3 i = g 3 i := by rw [i3 i (by omega), if_neg (fun q => absurd q.1 (by omega))]
    have er : ∀ j, j = 0 ∨ j = 1 ∨ j = 7 ∨ j = 8 → (conC g w i).1 j = g j := fun j hj => conC_off (by omega)
    have et : taken (conC g w i).1 i = taken g i := by unfold taken; rw [e6]
    have ew : who (conC g w i).1 i = who g i := by unfold who; rw [e6]
    have ef : fit (conC g w i).1 = fit g := fit_congr (er 0 (by omega)) (er 1 (by omega)) (er 7 (by omega)) (er 8 (by omega))
    have lift : ∀ c, c < nc → ¬ c = i → ((c < i + 1 ∧ taken g c = true) ↔ (c < i ∧ taken g c = true)) := fun c _ hne => ⟨fun q => ⟨by omega, q.2⟩, fun q => ⟨by omega, q.2⟩⟩
    cases ht : taken g i with
    | false =>
      have e : conC g w (i + 1) = conC g w i := by
        conv => lhs; unfold conC
        rw [et, ht]; rfl
      rw [e]
      refine ⟨fun c hc => ?_, fun c hc => ?_, ?_, ?_⟩
      · rw [i3 c hc]
        by_cases q : c = i
        · subst q; rw [if_neg (fun q => absurd q.1 (by omega)), if_neg (fun q => by rw [ht] at q; exact Bool.noConfusion q.2)]
        · have l := lift c hc q
          by_cases z : c < i ∧ taken g c = true
          · rw [if_pos z, if_pos (l.mpr z)]
          · rw [if_neg z, if_neg (fun y => z (l.mp y))]
      · rw [i6 c hc]
        by_cases q : c = i
        · subst q; rw [if_neg (fun q => absurd q.1 (by omega)), if_neg (fun q => by rw [ht] at q; exact Bool.noConfusion q.2.1)]
        · by_cases z : c < i ∧ taken g c = true ∧ standW g c w = 0
          · rw [if_pos z, if_pos ⟨by omega, z.2⟩]
          · rw [if_neg z, if_neg (fun y => z ⟨by omega, y.2⟩)]
      · rw [iA]; show _ = if taken g i = true then _ else _; rw [ht]; rfl
      · rw [iP]; show _ = g 14 1 + if taken g i = true then _ else _; rw [ht]; rfl
    | true =>
      have e : conC g w (i + 1) = (wearG (playG (conC g w i).1 i (who g i)) i w, (conC g w i).2 + fit g i (who g i)) := by
        conv => lhs; unfold conC
        rw [et, ht, ew, ef]; rfl
      rw [e]
      obtain ⟨m, hm, em⟩ : ∃ m, m < nm ∧ g 6 i = nI m := (h.nor6 (by omega)).resolve_left (taken_ne ht)
      have ewm : who g i = m := by unfold who; rw [em, nI_clamp (by omega)]
      have h12 : (conC g w i).1 12 m = nI i := (dEF_iff h10 m10 hG.ef (show i < nc by omega) hm).mp (by rw [e6, em])
      have p6 : playG (conC g w i).1 i m 6 = (conC g w i).1 6 := funext fun k => playG_off ⟨by decide, by decide, by decide, fun q => absurd q (by decide)⟩
      have p3 : playG (conC g w i).1 i m 3 = (conC g w i).1 3 := funext fun k => playG_off ⟨by decide, by decide, by decide, fun q => absurd q (by decide)⟩
      have p1 : playG (conC g w i).1 i m 1 = (conC g w i).1 1 := funext fun k => playG_off ⟨by decide, by decide, by decide, fun q => absurd q (by decide)⟩
      have p8 : playG (conC g w i).1 i m 8 = (conC g w i).1 8 := funext fun k => playG_off ⟨by decide, by decide, by decide, fun q => absurd q (by decide)⟩
      have p12 : playG (conC g w i).1 i m 12 m = (conC g w i).1 12 m := playG_off ⟨by decide, by decide, by decide, fun q => absurd q (by decide)⟩
      have es : standW (playG (conC g w i).1 i m) i w = standW g i w := standW_eq (by rw [p3, e3]) (by rw [p6, e6]) (by rw [p1, er 1 (by omega)]) (by rw [p8, er 8 (by omega)])
      have ewp : who (playG (conC g w i).1 i m) i = m := by unfold who; rw [p6, e6, em, nI_clamp (by omega)]
      rw [ewm]
      refine ⟨fun c hc => ?_, fun c hc => ?_, ?_, ?_⟩
      · show wearG _ i w 3 c = _
        rw [wearG_3, es, p3]
        by_cases q : c = i
        · subst q; rw [if_pos rfl, if_pos ⟨by omega, ht⟩]
        · rw [if_neg q, i3 c hc]
          have l := lift c hc q
          by_cases z : c < i ∧ taken g c = true
          · rw [if_pos z, if_pos (l.mpr z)]
          · rw [if_neg z, if_neg (fun y => z (l.mp y))]
      · show wearG _ i w 6 c = _
        rw [wearG_6 (by rw [ewp, p12]; exact h12) (by omega), es, p6]
        by_cases q : c = i
        · subst q
          by_cases z : standW g c w = 0
          · rw [if_pos ⟨rfl, z⟩, if_pos ⟨by omega, ht, z⟩]
          · rw [if_neg (fun y => z y.2), if_neg (fun y => z y.2.2), e6]
        · rw [if_neg (fun y => q y.1), i6 c hc]
          by_cases z : c < i ∧ taken g c = true ∧ standW g c w = 0
          · rw [if_pos z, if_pos ⟨by omega, z.2⟩]
          · rw [if_neg z, if_neg (fun y => z ⟨by omega, y.2⟩)]
      · show _ = if taken g i = true then _ else _
        rw [ht, if_pos rfl, iA, ewm]
      · show wearG _ i w 14 1 = g 14 1 + if taken g i = true then _ else _
        rw [ht, if_pos rfl, wearG_off (by decide), ewm, ← i32_assoc, ← iP]
        unfold playG payC
        rw [ef]
        simp [gu_r]
theorem cntB_add {p q : Nat → Bool} {n : Nat} (h : ∀ k, k < n → ¬ (p k = true ∧ q k = true)) : cntB (fun k => p k || q k) n = cntB p n + cntB q n := by
  rw [cntB_sum, cntB_sum, cntB_sum, ← sumN_add]
  refine sumN_congr (fun k hk => ?_)
  have := h k hk
  unfold bN
  cases hp : p k <;> cases hq : q k <;> simp_all
/-- the chairs that fall in a concert -/
def dwn (g : LG) (w : Int32) (c : Nat) : Bool := taken g c && decide (standW g c w = 0)
/-- the league behind a concert -/
def conG (g : LG) (w : Int32) (nc : Nat) : LG := gu (conC g w nc).1 14 4 (g 14 4 + 1)
theorem conG_off {g : LG} {w : Int32} {nc j : Nat} (h : j ≠ 14) : conG g w nc j = (conC g w nc).1 j := funext fun k => gu_ne (fun q => h q.1)
theorem conG_inv {g : LG} {nc nm n : Nat} {w : Int32} (h : Inv g nc nm n) (hn : n < 100000) (hw : rng w 1 4) : Inv (conG g w nc) nc nm (n + 1) := by
  have e := (conC_inv h hn hw (Nat.le_refl nc)).1
  exact books_inv e (by omega)
theorem conG_3 {g : LG} {nc nm n c : Nat} {w : Int32} (h : Inv g nc nm n) (hn : n < 100000) (hw : rng w 1 4) (hc : c < nc) : conG g w nc 3 c = if taken g c = true then standW g c w else g 3 c := by
  rw [conG_off (by decide), (conC_rows h hn hw (Nat.le_refl nc)).1 c hc]
  simp [hc]
theorem conG_6 {g : LG} {nc nm n c : Nat} {w : Int32} (h : Inv g nc nm n) (hn : n < 100000) (hw : rng w 1 4) (hc : c < nc) : conG g w nc 6 c = if dwn g w c = true then -1 else g 6 c := by
  rw [conG_off (by decide), (conC_rows h hn hw (Nat.le_refl nc)).2.1 c hc]
  unfold dwn
  simp [hc]
theorem conG_fell {g : LG} {nc nm n : Nat} {w : Int32} (h : Inv g nc nm n) (hn : n < 100000) (hw : rng w 1 4) : cntB (fell (conG g w nc)) nc = cntB (fell g) nc + cntB (dwn g w) nc := by
  rw [← cntB_add (fun c hc q => ?_)]
  · refine cntB_congr (fun c hc => ?_)
    unfold fell dwn
    rw [conG_3 h hn hw hc]
    cases ht : taken g c with
    | false => simp
    | true =>
      have : ¬ g 3 c = 0 := fun z => taken_ne ht ((h.ch c hc).2.2.2.2.2.2 z)
      simp [this]
  · obtain ⟨q1, q2⟩ := q
    unfold fell at q1
    unfold dwn at q2
    simp only [Bool.and_eq_true, decide_eq_true_eq] at q1 q2
    exact taken_ne q2.1 ((h.ch c hc).2.2.2.2.2.2 q1)
theorem conG_taken {g : LG} {nc nm n : Nat} {w : Int32} (h : Inv g nc nm n) (hn : n < 100000) (hw : rng w 1 4) : cntB (taken (conG g w nc)) nc + cntB (dwn g w) nc = cntB (taken g) nc := by
  rw [← cntB_add (fun c hc q => ?_)]
  · refine cntB_congr (fun c hc => ?_)
    have e := conG_6 h hn hw hc
    unfold taken at *
    rw [e]
    cases hd : dwn g w c with
    | false => simp
    | true =>
      have : taken g c = true := by unfold dwn at hd; simp only [Bool.and_eq_true] at hd; exact hd.1
      unfold taken at this
      simp at this
      simp [this]
  · obtain ⟨q1, q2⟩ := q
    unfold taken at q1
    rw [conG_6 h hn hw hc, if_pos q2] at q1
    simp at q1
theorem SF.con {g : LG} {nc nm n : Nat} {w : Int32} (hf : SF g nc nm) (h : Inv g nc nm n) (hn : n < 100000) (hw : rng w 1 4) : SF (conG g w nc) nc nm := by
  refine hf.less (fun c hc => ?_) h.m10 (by rw [conG_off (by decide), conC_off (by decide)]) (by rw [conG_off (by decide), conC_off (by decide)]) (by rw [conG_off (by decide), conC_off (by decide)]) (by rw [conG_off (by decide), conC_off (by decide)])
  rw [conG_6 h hn hw hc]
  split
  · exact Or.inr rfl
  · exact Or.inl rfl
/-! how many concerts are left -/
theorem dv_k : ∀ x, x < 4 → ∀ y, y < 5 → 1 ≤ x → 1 ≤ y → (nI x - 1) / nI y = nI ((x - 1) / y) ∧ (y < x → (nI (x - y) - 1) / nI y = nI ((x - 1) / y - 1)) := by decide +kernel
theorem wear_k {g : LG} {nc nm n c : Nat} {w : Int32} (h : Inv g nc nm n) (hw : rng w 1 4) (hc : c < nc) : ∃ x y, x ≤ 3 ∧ y ≤ 4 ∧ g 3 c = nI x ∧ wearOf g c w = nI y ∧ (taken g c = false → y = 0) ∧ (taken g c = true → 1 ≤ x) ∧ standW g c w = nI (x - y) := by
  obtain ⟨x, -, hx, ex⟩ := (h.ch c hc).2.2.2.1
  obtain ⟨v, hv1, hv2, ev⟩ := hw
  have hy : ∃ y, y ≤ 4 ∧ wearOf g c w = nI y ∧ (taken g c = false → y = 0) := by
    unfold wearOf
    cases ht : taken g c with
    | false => exact ⟨0, by omega, rfl, fun _ => rfl⟩
    | true =>
      simp only [if_true]
      split
      · split
        · exact ⟨1, by omega, rfl, fun q => Bool.noConfusion q⟩
        · exact ⟨0, by omega, rfl, fun q => Bool.noConfusion q⟩
      · exact ⟨v, by omega, ev, fun q => Bool.noConfusion q⟩
  obtain ⟨y, hy, ey, et⟩ := hy
  refine ⟨x, y, hx, hy, ex, ey, et, fun ht => ?_, ?_⟩
  · have : ¬ g 3 c = 0 := fun z => taken_ne ht ((h.ch c hc).2.2.2.2.2.2 z)
    rw [ex] at this
    rcases Nat.eq_zero_or_pos x with z | z
    · subst z; exact absurd rfl this
    · exact z
  · unfold standW
    rw [ex, ey]
    exact standW_k x (by omega) y (by omega)
theorem lasts_k {g : LG} {nc nm n i : Nat} {w : Int32} (h : Inv g nc nm n) (hw : rng w 1 4) (hi : i ≤ nc) : (lastsN g w i = -1015 ∧ ∀ c, c < i → wearOf g c w = 0) ∨ ∃ k, k ≤ 2 ∧ lastsN g w i = nI k ∧ (∃ c, c < i ∧ 0 < wearOf g c w ∧ (g 3 c - 1) / wearOf g c w = nI k) ∧ ∀ c, c < i → 0 < wearOf g c w → ∃ k', k ≤ k' ∧ k' ≤ 2 ∧ (g 3 c - 1) / wearOf g c w = nI k' := by
  induction i with
  | zero => exact Or.inl ⟨rfl, fun c hc => absurd hc (Nat.not_lt_zero c)⟩
  | succ i ih =>
    obtain ⟨x, y, hx, hy, ex, ey, et, e1, -⟩ := wear_k h hw (show i < nc by omega)
    unfold lastsN
    by_cases hp : 0 < wearOf g i w
    · rw [if_pos hp]
      have hy1 : 1 ≤ y := by
        rw [ey] at hp
        rcases Nat.eq_zero_or_pos y with z | z
        · subst z; exact absurd hp (by decide)
        · exact z
      have ht : taken g i = true := by
        cases q : taken g i with
        | true => rfl
        | false => have := et q; omega
      have hx1 := e1 ht
      have ed := (dv_k x (by omega) y (by omega) hx1 hy1).1
      have hle : (x - 1) / y ≤ 2 := Nat.le_trans (Nat.div_le_self _ _) (by omega)
      have ev : (g 3 i - 1) / wearOf g i w = nI ((x - 1) / y) := by rw [ex, ey]; exact ed
      rcases ih (by omega) with ⟨q1, q2⟩ | ⟨k, hk, q1, ⟨c0, hc0, q2, q3⟩, q4⟩
      · rw [if_pos q1]
        refine Or.inr ⟨(x - 1) / y, hle, ev, ⟨i, by omega, hp, ev⟩, fun c hc hpc => ?_⟩
        by_cases e : c = i
        · subst e; exact ⟨_, Nat.le_refl _, hle, ev⟩
        · rw [q2 c (by omega)] at hpc; exact absurd hpc (by decide)
      · rw [q1, if_neg (fun q => absurd (q ▸ nI_pos (show k < 2 ^ 31 by omega)) (by decide)), ev]
        by_cases hlt : nI ((x - 1) / y) < nI k
        · rw [if_pos hlt]
          have hlt' : (x - 1) / y < k := (nI_ltI (by omega) (by omega)).mp hlt
          refine Or.inr ⟨(x - 1) / y, hle, rfl, ⟨i, by omega, hp, ev⟩, fun c hc hpc => ?_⟩
          by_cases e : c = i
          · subst e; exact ⟨_, Nat.le_refl _, hle, ev⟩
          · obtain ⟨k', a1, a2, a3⟩ := q4 c (by omega) hpc
            exact ⟨k', by omega, a2, a3⟩
        · rw [if_neg hlt]
          have hlt' : ¬ (x - 1) / y < k := fun z => hlt ((nI_ltI (by omega) (by omega)).mpr z)
          refine Or.inr ⟨k, hk, rfl, ⟨c0, by omega, q2, q3⟩, fun c hc hpc => ?_⟩
          by_cases e : c = i
          · subst e; exact ⟨_, by omega, hle, ev⟩
          · exact q4 c (by omega) hpc
    · rw [if_neg hp]
      have hz : wearOf g i w = 0 := by
        rw [ey] at hp ⊢
        rcases Nat.eq_zero_or_pos y with z | z
        · subst z; rfl
        · exact absurd ((nI_ltI (a := 0) (by omega) (by omega)).mpr z) hp
      rcases ih (by omega) with ⟨q1, q2⟩ | ⟨k, hk, q1, ⟨c0, hc0, q2, q3⟩, q4⟩
      · refine Or.inl ⟨q1, fun c hc => ?_⟩
        by_cases e : c = i
        · subst e; exact hz
        · exact q2 c (by omega)
      · refine Or.inr ⟨k, hk, q1, ⟨c0, by omega, q2, q3⟩, fun c hc hpc => ?_⟩
        by_cases e : c = i
        · subst e; exact absurd hpc hp
        · exact q4 c (by omega) hpc
