theorem nI_n0 {k : Nat} (hk : k < 2 ^ 31) : ¬ nI k < 0 := nI_pos hk
theorem rng.nlt {x : Int32} {lo hi : Nat} (h : rng x lo hi) (hh : hi < 2 ^ 31) : ¬ x < 0 := h.lt hh
theorem leaveN_6 {g : LG} {nc nm n c : Nat} (h : Inv g nc nm n) (hc : c < nc) : leaveN g nm 6 c = -1 := by
  have h10 := h.c10
  have h1 := leaveN_inv h (Nat.le_refl nm)
  rcases h1.ef.2 c hc with q | ⟨m, hm, -, q⟩
  · exact q
  · rw [leaveN_12, if_pos hm] at q; exact absurd q.symm (nI_ne_m1 (by omega))
theorem matS_nq {g : LG} {nc nm c : Nat} (hF : Fb g nc nm) (hc : c < nc) : nOr (matS g nc nm c) nm := by
  rcases matS_seat hF hc with q | ⟨m, hm, q, -⟩
  · exact Or.inl q
  · exact Or.inr ⟨m, hm, q⟩
theorem seasG_6 {g : LG} {nc nm n c : Nat} (h : Inv g nc nm n) (hc : c < nc) : seasG g 6 c = matS g nc nm c := by
  have hF := h.fb
  unfold seasG
  rw [h.mNe, h.cNe, seatBy_6 (nc := nc) (nm := nm) h.m10 (fun c' hc' => by rw [matS_leave hF hc']; exact matS_nq hF hc') (Nat.le_refl nc), matS_leave hF hc, leaveN_6 h hc]
  by_cases e : matS g nc nm c = -1
  · rw [if_neg (fun z => z.2 e), e]
  · rw [if_pos ⟨hc, e⟩]
theorem SF.seas {g : LG} {nc nm n : Nat} (h : Inv g nc nm n) : SF (seasG g) nc nm := fun c m hc hm h6 => by
  rw [seasG_6 h hc] at h6
  rw [wants_eq (seasG_off (by decide)) (seasG_off (by decide)) (seasG_off (by decide)) (seasG_off (by decide))]
  exact matS_wants h.fb hc hm h6
/-- the league behind a season -/
noncomputable def seaG (g : LG) : LG := gu (seasG g) 14 5 (g 14 5 + 1)
theorem seaG_inv {g : LG} {nc nm n : Nat} (h : Inv g nc nm n) : Inv (seaG g) nc nm n := books_inv (seasG_inv h) (by omega)
theorem seaG_off {g : LG} {j : Nat} (h : j ≠ 6 ∧ j ≠ 11 ∧ j ≠ 12 ∧ j ≠ 14) : seaG g j = g j := funext fun k => by
  unfold seaG
  rw [gu_ne (fun q => h.2.2.2 q.1), seasG_off ⟨h.1, h.2.1, h.2.2.1⟩]
theorem seaG_6 {g : LG} {nc nm n c : Nat} (h : Inv g nc nm n) (hc : c < nc) : seaG g 6 c = matS g nc nm c := by
  unfold seaG
  rw [gu_ne (by omega), seasG_6 h hc]
theorem seaG_12 {g : LG} {nc nm n m : Nat} {a : LG} (h : Inv g nc nm n) (ha : DAr g nc nm a) (hm : m < nm) : a 3 m = seaG g 12 m := by
  have h10 := h.c10
  have m10 := h.m10
  have hF := h.fb
  have hS := seaG_inv h
  have key : ∀ c, c < nc → (a 3 m = nI c ↔ seaG g 12 m = nI c) := fun c hc => by
    obtain ⟨A, hA, -⟩ := id ha
    rw [← dEF_iff h10 m10 hA.ef hc hm, ← dEF_iff h10 m10 hS.ef hc hm, seaG_6 h hc, matS_of hF ha hc]
  obtain ⟨A, hA, -⟩ := id ha
  rcases hA.nor hm with q | ⟨c, hc, q⟩
  · rcases hS.nor12 hm with e | ⟨c, hc, e⟩
    · rw [q, e]
    · have := (key c hc).mpr e
      rw [q] at this
      exact absurd this.symm (nI_ne_m1 (by omega))
  · rw [q, (key c hc).mp q]
theorem seas_rest {g : LG} {nc nm n : Nat} (h : Inv g nc nm n) : ∀ c, c ≤ nc → restN (seaG g) nm c = 0 := by
  have h10 := h.c10
  have hF := h.fb
  obtain ⟨a, ha⟩ := DAr_ex hF
  have hS := seaG_inv h
  have ha' : DAr (seaG g) nc nm a := by
    rw [DAr_congr (g := g) (seaG_off (by decide)) (seaG_off (by decide)) (seaG_off (by decide)) (seaG_off (by decide)) (seaG_off (by decide)) (seaG_off (by decide)) (seaG_off (by decide)) (seaG_off (by decide))]
    exact ha
  have no : ∀ c m, c < nc → m < nm → areR (seaG g) c m = false := fun c m hc hm => by
    cases e : areR (seaG g) c m with
    | false => rfl
    | true =>
      unfold areR at e
      simp only [Bool.and_eq_true, Bool.or_eq_true, decide_eq_true_eq] at e
      obtain ⟨⟨⟨e1, e2⟩, e3⟩, e4⟩ := e
      unfold who at e3
      rw [seaG_6 h hc, ← matS_of hF ha hc] at e3
      rw [← seaG_12 h ha hm] at e4
      exact (DAr_stable hS.fb ha' hc hm e1 e2 e3 e4).elim
  intro c hc
  induction c with
  | zero => rfl
  | succ c ih =>
    unfold restN
    rw [ih (by omega), cntB_congr (q := fun _ => false) (fun m hm => no c m (by omega) hm)]
    clear ih
    have : ∀ k, cntB (fun _ => false) k = 0 := fun k => by
      induction k with
      | zero => rfl
      | succ k ih => unfold cntB; rw [ih]; rfl
    rw [this]
/-- how many the season seats -/
theorem seas_cnt {g : LG} {nc nm n : Nat} (h : Inv g nc nm n) : cntB (sits (seaG g)) nm = cntB (fun c => !decide (matS g nc nm c = -1)) nc := by
  rw [← (seaG_inv h).cnt]
  refine cntB_congr (fun c hc => ?_)
  unfold taken
  rw [seaG_6 h hc]
/-! every change keeps what holds; a code leaves the league as it was -/
def Kq (n : Nat) (g : LG) (o : Chg) : Prop := (∃ a b, Inv o.2.1 a b (n + 1) ∧ SF o.2.1 a b) ∧ (o.1 < 0 → o.2.1 = g)
theorem Kq.same {g : LG} {nc nm n : Nat} {v : Int32} {rs : Rs} (h : Inv g nc nm n) (hf : SF g nc nm) (hn : n < 100000) : Kq n g (v, g, rs) := ⟨⟨nc, nm, h.succ (by omega) (by omega), hf⟩, fun _ => rfl⟩
theorem Kq.new {g h : LG} {nc nm n : Nat} {v : Int32} {rs : Rs} (hi : Inv h nc nm n) (hf : SF h nc nm) (hn : n < 100000) (hv : ¬ v < 0) : Kq n g (v, h, rs) := ⟨⟨nc, nm, hi.succ (by omega) (by omega), hf⟩, fun q => absurd q hv⟩
theorem Kq.new1 {g h : LG} {nc nm n : Nat} {v : Int32} {rs : Rs} (hi : Inv h nc nm (n + 1)) (hf : SF h nc nm) (hv : ¬ v < 0) : Kq n g (v, h, rs) := ⟨⟨nc, nm, hi, hf⟩, fun q => absurd q hv⟩
theorem oBringC_kq {g : LG} {rs : Rs} {s d : Int32} {nc nm n : Nat} (h : Inv g nc nm n) (hf : SF g nc nm) (hn : n < 100000) : Kq n g (oBringC g rs s d) := by
  have h10 := h.c10
  unfold oBringC
  split
  · exact Kq.same h hf hn
  · next q =>
    split
    · exact Kq.same h hf hn
    · next q2 =>
      rw [h.cNe] at q2 ⊢
      have hb := and_ff q
      exact Kq.new (bringC_inv h (by omega) (inB_rng (lo := 0) (hi := 3) hb.1 (by omega) (by omega)) (inB_rng (lo := 1) (hi := 9) hb.2 (by omega) (by omega))) (hf.bC h) hn (nI_n0 (by omega))
theorem oBringM_kq {g : LG} {rs : Rs} {s k d : Int32} {nc nm n : Nat} (h : Inv g nc nm n) (hf : SF g nc nm) (hn : n < 100000) : Kq n g (oBringM g rs s k d) := by
  have m10 := h.m10
  unfold oBringM
  split
  · exact Kq.same h hf hn
  · next q =>
    split
    · exact Kq.same h hf hn
    · next q2 =>
      rw [h.mNe] at q2 ⊢
      have hb := and_ff q
      have hb2 := and_ff (fun z => by rw [hb.1] at z; cases z)
      have hb1 : inB s 0 3 = true ∧ inB k 1 9 = true := by simpa using hb.1
      exact Kq.new (bringM_inv h (by omega) (inB_rng (lo := 0) (hi := 3) hb1.1 (by omega) (by omega)) (inB_rng (lo := 1) (hi := 9) hb1.2 (by omega) (by omega)) (inB_rng (lo := 0) (hi := 9) hb.2 (by omega) (by omega))) (hf.bM h (by omega)) hn (nI_n0 (by omega))
theorem oSeat_kq {g : LG} {rs : Rs} {x y : Int32} {nc nm n : Nat} (h : Inv g nc nm n) (hf : SF g nc nm) (hn : n < 100000) : Kq n g (oSeat g rs x y) := by
  have h10 := h.c10
  have h20 := h.m10
  unfold oSeat
  split
  · exact Kq.same h hf hn
  · next q =>
    have hb := and_ff q
    rw [h.cNe, h.mNe] at hb
    obtain ⟨c, hc, rfl⟩ := inR_of hb.1 (by omega)
    obtain ⟨m, hm, rfl⟩ := inR_of hb.2 (by omega)
    rw [nI_clamp (by omega), nI_clamp (by omega)]
    unfold oSeatN
    split
    · exact Kq.same h hf hn
    · next q1 =>
      split
      · exact Kq.same h hf hn
      · next q2 =>
        split
        · exact Kq.same h hf hn
        · next q3 =>
          split
          · exact Kq.same h hf hn
          · next q4 =>
            split
            · exact Kq.same h hf hn
            · unfold fell at q1
              unfold taken at q2
              unfold sits at q3
              have := cntB_le (sits (sitG g c m)) (mN g)
              rw [h.mNe] at this ⊢
              exact Kq.new (sitG_inv h hc hm (by simpa using q1) (by simpa using q2) (by simpa using q3)) (hf.sitq h20 hm (not_false_t q4)) hn (nI_n0 (by omega))
theorem oRise_kq {g : LG} {rs : Rs} {y : Int32} {nc nm n : Nat} (h : Inv g nc nm n) (hf : SF g nc nm) (hn : n < 100000) : Kq n g (oRise g rs y) := by
  have h10 := h.c10
  have h20 := h.m10
  unfold oRise
  split
  · exact Kq.same h hf hn
  · next q =>
    have hb := not_false_t q
    rw [h.mNe] at hb
    obtain ⟨m, hm, rfl⟩ := inR_of hb (by omega)
    rw [nI_clamp (by omega)]
    unfold oRiseN
    split
    · exact Kq.same h hf hn
    · next q1 =>
      refine Kq.new (leaveG_inv h hm) (hf.lv h hm) hn ?_
      rcases h.nor12 hm with e | ⟨c, hc, e⟩
      · exact absurd e (sits_ne (not_false_t q1))
      · rw [e]; exact nI_n0 (by omega)
theorem oSeason_kq {g : LG} {rs : Rs} {nc nm n : Nat} (h : Inv g nc nm n) (hn : n < 100000) : Kq n g (oSeason g rs) := by
  have h20 := h.m10
  unfold oSeason
  have := cntB_le (sits (gu (seasG g) 14 5 (g 14 5 + 1))) (mN g)
  rw [h.mNe] at this ⊢
  exact Kq.new (seaG_inv h) ((SF.seas h).same rfl rfl rfl rfl rfl) hn (nI_n0 (by omega))
theorem oBid_kq {g : LG} {rs : Rs} {y v : Int32} {nc nm n : Nat} (h : Inv g nc nm n) (hf : SF g nc nm) (hn : n < 100000) : Kq n g (oBid g rs y v) := by
  have h20 := h.m10
  unfold oBid
  split
  · exact Kq.same h hf hn
  · next q =>
    have hb := not_false_t q
    rw [h.mNe] at hb
    obtain ⟨m, hm, rfl⟩ := inR_of hb (by omega)
    rw [nI_clamp (by omega)]
    unfold oBidN
    split
    · exact Kq.same h hf hn
    · next q1 =>
      split
      · exact Kq.same h hf hn
      · next q2 =>
        split
        · exact Kq.same h hf hn
        · next q3 => exact Kq.new (bid_inv h hm (inB_rng (lo := 0) (hi := 99) (not_false_t q1) (by omega) (by omega)) (i32_nlt.mp q3) (sits_ne (not_false_t q2))) (hf.same (funext fun _ => gu_ne (by omega)) (funext fun _ => gu_ne (by omega)) (funext fun _ => gu_ne (by omega)) (funext fun _ => gu_ne (by omega)) (funext fun _ => gu_ne (by omega))) hn ((h.mu m hm).2.2.2.2.1.lt (by omega))
theorem sellG_off {g : LG} {v : Int32} {j : Nat} (h : j ≠ 2 ∧ j ≠ 10 ∧ j ≠ 11 ∧ j ≠ 14) : sellG g v j = g j := funext fun k => by
  unfold sellG
  rw [gu_ne (fun q => h.2.2.2 q.1), noBids_off h.2.2.1, gu_ne (fun q => h.1 q.1), gu_ne (fun q => h.2.2.2 q.1), gu_ne (fun q => h.2.1 q.1)]
theorem buyer_nI {g : LG} {nc nm n : Nat} (h : Inv g nc nm n) (hb : ¬ buyer g = -1) : ∃ b, b < nm ∧ buyer g = nI b := by
  unfold buyer at hb ⊢
  rw [h.mNe] at hb ⊢
  exact (highB_no (g := g) (but := -1) (n := nm)).resolve_left hb
theorem oSell_kq {g : LG} {rs : Rs} {v : Int32} {nc nm n : Nat} (h : Inv g nc nm n) (hf : SF g nc nm) (hn : n < 100000) : Kq n g (oSell g rs v) := by
  unfold oSell
  split
  · exact Kq.same h hf hn
  · next q1 =>
    split
    · exact Kq.same h hf hn
    · next q2 =>
      obtain ⟨b, hb, eb⟩ := buyer_nI h q2
      exact Kq.new1 (sell_inv h hn (inB_rng (lo := 1) (hi := 9) (not_false_t q1) (by omega) (by omega)) q2) (hf.same (sellG_off (by decide)) (sellG_off (by decide)) (sellG_off (by decide)) (sellG_off (by decide)) (sellG_off (by decide))) ((price_rng h hb eb).1.1.lt (by omega))
theorem conC_off {g : LG} {w : Int32} {i j : Nat} (h : j ≠ 3 ∧ j ≠ 5 ∧ j ≠ 6 ∧ j ≠ 10 ∧ j ≠ 11 ∧ j ≠ 12 ∧ j ≠ 13 ∧ j ≠ 14) : (conC g w i).1 j = g j := funext fun k => by
  induction i with
  | zero => rfl
  | succ i ih =>
    unfold conC
    split
    · show wearG _ i w j k = _
      rw [wearG_off (by omega), playG_off ⟨by omega, by omega, by omega, fun q => absurd q (by omega)⟩, ih]
    · exact ih
