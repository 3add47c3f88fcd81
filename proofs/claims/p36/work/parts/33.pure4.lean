theorem cntB_pos {p : Nat → Bool} {n : Nat} : 0 < cntB p n ↔ ∃ k, k < n ∧ p k = true := by
  induction n with
  | zero => exact ⟨fun h => absurd h (Nat.lt_irrefl 0), fun ⟨k, hk, _⟩ => absurd hk (Nat.not_lt_zero k)⟩
  | succ n ih =>
    unfold cntB
    cases e : p n with
    | true => simp only [if_true]; exact ⟨fun _ => ⟨n, by omega, e⟩, fun _ => by omega⟩
    | false =>
      simp only [Bool.false_eq_true, if_false, Nat.add_zero]
      rw [ih]
      refine ⟨fun ⟨k, hk, q⟩ => ⟨k, by omega, q⟩, fun ⟨k, hk, q⟩ => ?_⟩
      rcases Nat.lt_or_ge k n with z | z
      · exact ⟨k, z, q⟩
      · have : k = n := by omega
        subst this; rw [e] at q; cases q
theorem dwn_iff {g : LG} {nc nm n c : Nat} {w : Int32} (h : Inv g nc nm n) (hw : rng w 1 4) (hc : c < nc) : dwn g w c = true ↔ 0 < wearOf g c w ∧ (g 3 c - 1) / wearOf g c w = 0 := by
  obtain ⟨x, y, hx, hy, ex, ey, et, e1, es⟩ := wear_k h hw hc
  unfold dwn
  rw [es, ex, ey]
  simp only [Bool.and_eq_true, decide_eq_true_eq]
  have hp : 0 < nI y ↔ 0 < y := nI_ltI (a := 0) (by omega) (by omega)
  have hz : nI (x - y) = 0 ↔ x - y = 0 := nI_eq (b := 0) (by omega) (by omega)
  rw [hp, hz]
  constructor
  · rintro ⟨ht, h0⟩
    have hx1 := e1 ht
    have hy1 : 1 ≤ y := by omega
    refine ⟨hy1, ?_⟩
    rw [(dv_k x (by omega) y (by omega) hx1 hy1).1, Nat.div_eq_of_lt (by omega)]
    rfl
  · rintro ⟨hy1, h0⟩
    have ht : taken g c = true := by
      cases q : taken g c with
      | true => rfl
      | false => have := et q; omega
    have hx1 := e1 ht
    refine ⟨ht, ?_⟩
    rw [(dv_k x (by omega) y (by omega) hx1 hy1).1] at h0
    have hle : (x - 1) / y ≤ 2 := Nat.le_trans (Nat.div_le_self _ _) (by omega)
    have h0 : (x - 1) / y = 0 := (nI_eq (b := 0) (by omega) (by omega)).mp h0
    have := Nat.div_eq_zero_iff.mp h0
    omega
theorem lasts_zero {g : LG} {nc nm n : Nat} {w : Int32} (h : Inv g nc nm n) (hw : rng w 1 4) : lastsN g w nc = 0 ↔ 0 < cntB (dwn g w) nc := by
  rw [cntB_pos]
  constructor
  · intro e
    rcases lasts_k h hw (Nat.le_refl nc) with ⟨q1, -⟩ | ⟨k, hk, q1, ⟨c, hc, q2, q3⟩, -⟩
    · rw [e] at q1; exact absurd q1 (by decide)
    · rw [e] at q1
      have : k = 0 := ((nI_eq (a := 0) (by omega) (by omega)).mp q1).symm
      subst this
      exact ⟨c, hc, (dwn_iff h hw hc).mpr ⟨q2, q3⟩⟩
  · rintro ⟨c, hc, e⟩
    obtain ⟨e1, e2⟩ := (dwn_iff h hw hc).mp e
    rcases lasts_k h hw (Nat.le_refl nc) with ⟨-, q2⟩ | ⟨k, hk, q1, -, q4⟩
    · rw [q2 c hc] at e1; exact absurd e1 (by decide)
    · obtain ⟨k', a1, a2, a3⟩ := q4 c hc e1
      rw [e2] at a3
      have : k' = 0 := ((nI_eq (a := 0) (by omega) (by omega)).mp a3).symm
      rw [q1, show k = 0 by omega]
      rfl
/-- where none falls, one concert less is left -/
theorem lasts_next {g : LG} {nc nm n : Nat} {w : Int32} (h : Inv g nc nm n) (hn : n < 100000) (hw : rng w 1 4) (hz : cntB (dwn g w) nc = 0) : ∀ i, i ≤ nc → lastsN (conG g w nc) w i = if lastsN g w i = -1015 then -1015 else lastsN g w i - 1 := by
  have nd : ∀ c, c < nc → dwn g w c = false := fun c hc => by
    cases e : dwn g w c with
    | false => rfl
    | true => have := cntB_pos.mpr ⟨c, hc, e⟩; omega
  intro i hi
  induction i with
  | zero => rfl
  | succ i ih =>
    have ih := ih (by omega)
    obtain ⟨x, y, hx, hy, ex, ey, et, e1, es⟩ := wear_k h hw (show i < nc by omega)
    have h6 : conG g w nc 6 i = g 6 i := by rw [conG_6 h hn hw (by omega), nd i (by omega)]; rfl
    have eo : ∀ j, j = 1 ∨ j = 8 → conG g w nc j = g j := fun j hj => by rw [conG_off (by omega), conC_off (by omega)]
    have ew : wearOf (conG g w nc) i w = wearOf g i w := by
      unfold wearOf taken who
      rw [h6, eo 1 (by omega), eo 8 (by omega)]
    have lk := lasts_k h hw (show i ≤ nc by omega)
    conv => lhs; unfold lastsN
    conv => rhs; unfold lastsN
    rw [ew, ih]
    by_cases hp : 0 < wearOf g i w
    · rw [if_pos hp, if_pos hp]
      have hy1 : 1 ≤ y := by
        rw [ey] at hp
        exact (nI_ltI (a := 0) (by omega) (by omega)).mp hp
      have ht : taken g i = true := by
        cases q : taken g i with
        | true => rfl
        | false => have := et q; omega
      have hx1 := e1 ht
      have hyx : y < x := by
        have := nd i (by omega)
        unfold dwn at this
        rw [ht, es] at this
        simp only [Bool.true_and, decide_eq_false_iff_not] at this
        rcases Nat.lt_or_ge y x with z | z
        · exact z
        · exact absurd (by rw [show x - y = 0 by omega]; rfl) this
      have ed := dv_k x (by omega) y (by omega) hx1 hy1
      have hle : (x - 1) / y ≤ 2 := Nat.le_trans (Nat.div_le_self _ _) (by omega)
      have hge : 1 ≤ (x - 1) / y := (Nat.one_le_div_iff (by omega)).mpr (by omega)
      have ev : (g 3 i - 1) / wearOf g i w = nI ((x - 1) / y) := by rw [ex, ey]; exact ed.1
      have ev' : (conG g w nc 3 i - 1) / wearOf g i w = nI ((x - 1) / y - 1) := by
        rw [conG_3 h hn hw (by omega), if_pos ht, es, ey]; exact ed.2 hyx
      rw [ev, ev']
      generalize (x - 1) / y = q at hle hge
      have hq : nI (q - 1) = nI q - 1 := (nI_sub hge).symm
      rcases lk with ⟨q1, -⟩ | ⟨k, hk, q1, -, q4⟩
      · rw [q1]
        simp only [if_true]
        rw [if_neg (fun z => absurd (z ▸ nI_pos (show q < 2 ^ 31 by omega)) (by decide)), hq]
      · have hk1 : 1 ≤ k := by
          rcases Nat.eq_zero_or_pos k with z | z
          · subst z
            have h0 : ∃ c, c < i ∧ dwn g w c = true := by
              rcases lasts_k h hw (show i ≤ nc by omega) with ⟨r1, -⟩ | ⟨k2, -, r1, ⟨c, hc, r2, r3⟩, -⟩
              · rw [q1] at r1; exact absurd r1 (by decide)
              · rw [q1] at r1
                exact ⟨c, hc, (dwn_iff h hw (by omega)).mpr ⟨r2, by rw [r3, ← r1]; rfl⟩⟩
            obtain ⟨c, hc, e⟩ := h0
            rw [nd c (by omega)] at e
            cases e
          · exact z
        have hkn : ¬ nI k = -1015 := fun z => absurd (z ▸ nI_pos (show k < 2 ^ 31 by omega)) (by decide)
        have hk' : nI k - 1 = nI (k - 1) := nI_sub hk1
        rw [q1, if_neg hkn, hk', if_neg (fun z => absurd (z ▸ nI_pos (show k - 1 < 2 ^ 31 by omega)) (by decide)), if_neg hkn]
        by_cases hlt : q < k
        · rw [if_pos ((nI_ltI (by omega) (by omega)).mpr (show q - 1 < k - 1 by omega)), if_pos ((nI_ltI (by omega) (by omega)).mpr hlt), if_neg (fun z => absurd (z ▸ nI_pos (show q < 2 ^ 31 by omega)) (by decide)), hq]
        · rw [if_neg (fun z => by have := (nI_ltI (by omega) (by omega)).mp z; omega), if_neg (fun z => hlt ((nI_ltI (by omega) (by omega)).mp z)), if_neg hkn, hk']
    · rw [if_neg hp, if_neg hp]
theorem pay_eq {g : LG} {c m : Nat} : payC g c m = fit g c m / 3 := rfl
/-! ===== a sale ===== -/
theorem highB_but {g : LG} {n k : Nat} (hn : n < 2 ^ 31) : ∀ i, i ≤ n → highB g (nI n) i = highB g (-1) i := fun i hi => by
  induction i with
  | zero => rfl
  | succ i ih =>
    have h1 : ¬ nI i = nI n := fun e => by have := nI_inj (by omega) hn e; omega
    have h2 : ¬ nI i = -1 := nI_ne_m1 (by omega)
    unfold highB
    rw [ih (by omega)]
    simp [h1, h2]
/-- the law's own search: who bids the most so far, and the next highest bid -/
def salS (g : LG) : Nat → Int32 × Int32
  | 0 => (-1, 0)
  | m + 1 => if (if (salS g m).1 < 0 then 0 else g 11 (salS g m).1.toNatClampNeg) < g 11 m then (nI m, if (salS g m).1 < 0 then 0 else g 11 (salS g m).1.toNatClampNeg) else ((salS g m).1, if (salS g m).2 < g 11 m then g 11 m else (salS g m).2)
theorem highB_snd {g : LG} {but : Int32} {n : Nat} (hn : n < 2 ^ 31) : (highB g but n).2 = if (highB g but n).1 < 0 then 0 else g 11 (highB g but n).1.toNatClampNeg := by
  induction n with
  | zero => rfl
  | succ n ih =>
    unfold highB
    split
    · show g 11 n = if nI n < 0 then 0 else g 11 (nI n).toNatClampNeg
      rw [if_neg (nI_pos (by omega)), nI_clamp (by omega)]
    · exact ih (by omega)
theorem salS_is {g : LG} {nm n : Nat} (hb : ∀ m, m < nm → rng (g 11 m) 0 99) (h10 : nm ≤ 10) : n ≤ nm → salS g n = ((highB g (-1) n).1, (highB g (highB g (-1) n).1 n).2) := by
  induction n with
  | zero => intro _; rfl
  | succ n ih =>
    intro hn
    have ih := ih (by omega)
    have e2 := highB_snd (g := g) (but := -1) (show n < 2 ^ 31 by omega)
    unfold salS
    rw [ih]
    dsimp only
    rw [← e2]
    have hne : ¬ nI n = -1 := nI_ne_m1 (by omega)
    by_cases hlt : (highB g (-1) n).2 < g 11 n
    · rw [if_pos hlt]
      have ea : highB g (-1) (n + 1) = (nI n, g 11 n) := by
        conv => lhs; unfold highB
        rw [if_pos ⟨hne, i32_nle.mpr hlt⟩]
      rw [ea]
      dsimp only
      have eb : highB g (nI n) (n + 1) = highB g (-1) n := by
        conv => lhs; unfold highB
        rw [if_neg (fun q => q.1 rfl), highB_but (k := 0) (by omega) n (Nat.le_refl n)]
      rw [eb]
    · rw [if_neg hlt]
      have hle : g 11 n ≤ (highB g (-1) n).2 := i32_nlt.mp hlt
      have ea : highB g (-1) (n + 1) = highB g (-1) n := by
        conv => lhs; unfold highB
        rw [if_neg (fun q => q.2 hle)]
      rw [ea]
      have hb' : nI n ≠ (highB g (-1) n).1 := fun e => by
        rcases highB_no (g := g) (but := -1) (n := n) with q | ⟨k, hk, q⟩
        · rw [q] at e; exact hne e
        · rw [q] at e; have := nI_inj (by omega) (by omega) e; omega
      have eb : (highB g (highB g (-1) n).1 (n + 1)).2 = if (highB g (highB g (-1) n).1 n).2 < g 11 n then g 11 n else (highB g (highB g (-1) n).1 n).2 := by
        conv => lhs; unfold highB
        by_cases z : (highB g (highB g (-1) n).1 n).2 < g 11 n
        · rw [if_pos ⟨hb', i32_nle.mpr z⟩, if_pos z]
        · rw [if_neg (fun q => q.2 (i32_nlt.mp z)), if_neg z]
      rw [eb]
theorem salS_buyer {g : LG} {nc nm n : Nat} (h : Inv g nc nm n) : salS g nm = (buyer g, price g) := by
  have h10 := h.m10
  have hb : ∀ m, m < nm → rng (g 11 m) 0 99 := fun m hm => (h.mu m hm).2.2.2.2.1
  rw [salS_is hb h10 (Nat.le_refl nm)]
  unfold price nextB buyer
  rw [h.mNe]
  refine Prod.ext rfl ?_
  dsimp only
  rcases highB_no (g := g) (but := (highB g (-1) nm).1) (n := nm) with q | ⟨k, hk, q⟩
  · rw [if_pos q, highB_snd (by omega), q]; rfl
  · rw [if_neg (by rw [q]; exact nI_ne_m1 (by omega)), highB_snd (by omega), q, if_neg (nI_pos (by omega))]
theorem sell_facts {g : LG} {nc nm n b : Nat} {v : Int32} (h : Inv g nc nm n) (hb : b < nm) (eb : buyer g = nI b) :
    sellG g v 14 0 = g 14 0 + price g ∧ sellG g v 10 b = g 10 b - price g ∧ (∀ m, m < nm → sellG g v 11 m = 0) ∧ ∃ c, c < nc ∧ g 12 b = nI c ∧ sellG g v 12 b = nI c ∧ sellG g v 2 c = v := by
  have h10 := h.c10
  have m10 := h.m10
  have hs : ¬ g 12 b = -1 := fun q => by
    have := (h.mu b hb).2.2.2.2.2.2.1 q
    exact (price_rng h hb eb).2 this
  obtain ⟨c, hc, e12⟩ := (h.nor12 hb).resolve_left hs
  unfold sellG
  rw [eb, nI_clamp (by omega), e12, nI_clamp (by omega), h.mNe]
  refine ⟨?_, ?_, fun m hm => ?_, c, hc, rfl, ?_, ?_⟩
  · rw [gu_ne (by omega), noBids_off (by decide), gu_ne (by omega), gu_same]
  · rw [gu_ne (by omega), noBids_off (by decide), gu_ne (by omega), gu_ne (by omega), gu_same, Int32.sub_eq_add_neg]
  · rw [gu_ne (by omega), noBids_11, if_pos hm]
  · rw [gu_ne (by omega), noBids_off (by decide), gu_ne (by omega), gu_ne (by omega), gu_ne (by omega), e12]
  · rw [gu_ne (by omega), noBids_off (by decide), gu_same]
/-! the end of what keeps -/
theorem oConcert_kq {g : LG} {rs : Rs} {v : Int32} {nc nm n : Nat} (h : Inv g nc nm n) (hf : SF g nc nm) (hn : n < 100000) : Kq n g (oConcert g rs v) := by
  have h10 := h.c10
  unfold oConcert
  split
  · exact Kq.same h hf hn
  · next q1 =>
    split
    · exact Kq.same h hf hn
    · rw [h.cNe]
      have hw := inB_rng (lo := 1) (hi := 4) (not_false_t q1) (by omega) (by omega)
      obtain ⟨-, -, k, hk, ek⟩ := conC_inv h hn hw (Nat.le_refl nc)
      refine Kq.new1 (conG_inv h hn hw) (hf.con h hn hw) ?_
      rw [ek]
      exact nI_n0 (by omega)
theorem oRaise_kq {g : LG} {rs : Rs} {x : Int32} {nc nm n : Nat} (h : Inv g nc nm n) (hf : SF g nc nm) (hn : n < 100000) : Kq n g (oRaise g rs x) := by
  have h10 := h.c10
  unfold oRaise
  split
  · exact Kq.same h hf hn
  · next q =>
    have hb := not_false_t q
    rw [h.cNe] at hb
    obtain ⟨c, hc, rfl⟩ := inR_of hb (by omega)
    rw [nI_clamp (by omega)]
    unfold oRaiseN
    split
    · exact Kq.same h hf hn
    · split
      · exact Kq.same h hf hn
      · next q2 =>
        have h1 := stand_inv (v := 3) h hc ⟨3, by omega, by omega, rfl⟩ (fun z => absurd z (by decide))
        have e0 : gu g 3 c 3 14 0 = g 14 0 := gu_ne (by omega)
        have e2 : gu g 3 c 3 14 2 = g 14 2 := gu_ne (by omega)
        have h2 := raise_inv h1 (by rw [e0]; exact q2)
        rw [e0, e2] at h2
        refine Kq.new h2 (hf.same (funext fun _ => by rw [gu_ne (by omega), gu_ne (by omega), gu_ne (by omega)]) (funext fun _ => by rw [gu_ne (by omega), gu_ne (by omega), gu_ne (by omega)]) (funext fun _ => by rw [gu_ne (by omega), gu_ne (by omega), gu_ne (by omega)]) (funext fun _ => by rw [gu_ne (by omega), gu_ne (by omega), gu_ne (by omega)]) (funext fun _ => by rw [gu_ne (by omega), gu_ne (by omega), gu_ne (by omega)])) hn ?_
        obtain ⟨k, -, hk, ek⟩ := h.lg
        have := h.le
        rw [ek] at q2 ⊢
        have : 2 ≤ k := by
          rcases Nat.lt_or_ge k 2 with z | z
          · exact absurd ((nI_ltI (b := 2) (by omega) (by omega)).mpr z) q2
          · exact z
        rw [show (nI k - 2 : Int32) = nI (k - 2) from nI_sub this]
        exact nI_n0 (by omega)
theorem oPromote_kq {g : LG} {rs : Rs} {x : Int32} {nc nm n : Nat} (h : Inv g nc nm n) (hf : SF g nc nm) (hn : n < 100000) : Kq n g (oPromote g rs x) := by
  have h10 := h.c10
  unfold oPromote
  split
  · exact Kq.same h hf hn
  · next q =>
    have hb := not_false_t q
    rw [h.cNe] at hb
    obtain ⟨c, hc, rfl⟩ := inR_of hb (by omega)
    rw [nI_clamp (by omega)]
    unfold oPromoteN
    split
    · exact Kq.same h hf hn
    · next q1 =>
      split
      · exact Kq.same h hf hn
      · obtain ⟨k, -, hk, ek⟩ := (h.ch c hc).2.2.2.2.1
        rw [ek] at q1 ⊢
        have : ¬ (2 ≤ k) := fun z => q1 (nI_le (a := 2) z (by omega))
        refine Kq.new (tier_inv h hc ⟨k + 1, by omega, by omega, nI_1 k⟩) (hf.same (funext fun _ => gu_ne (by omega)) (funext fun _ => gu_ne (by omega)) (funext fun _ => gu_ne (by omega)) (funext fun _ => gu_ne (by omega)) (funext fun _ => gu_ne (by omega))) hn ?_
        rw [show (nI k + 1 : Int32) = nI (k + 1) from nI_1 k]
        exact nI_n0 (by omega)
theorem oOrder_kq {g : LG} {rs : Rs} {o : Ord} {nc nm n : Nat} (h : Inv g nc nm n) (hf : SF g nc nm) (hn : n < 100000) : Kq n g (oOrder g rs o) := by
  unfold oOrder
  split
  · exact oBringC_kq h hf hn
  split
  · exact oBringM_kq h hf hn
  split
  · exact oSeat_kq h hf hn
  split
  · exact oRise_kq h hf hn
  split
  · exact oSeason_kq h hn
  split
  · exact oBid_kq h hf hn
  split
  · exact oSell_kq h hf hn
  split
  · exact oConcert_kq h hf hn
  split
  · exact oRaise_kq h hf hn
  split
  · exact oPromote_kq h hf hn
  · exact Kq.same h hf hn
