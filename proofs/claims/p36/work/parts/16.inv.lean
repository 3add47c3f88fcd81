/-! ===== what always holds of a league, and the changes ===== -/
def cN (g : LG) : Nat := (g 14 7).toNatClampNeg
def mN (g : LG) : Nat := (g 14 8).toNatClampNeg
def rng (x : Int32) (lo hi : Nat) : Prop := ∃ k, lo ≤ k ∧ k ≤ hi ∧ x = nI k
def InvC (g : LG) (n c : Nat) : Prop := rng (g 0 c) 0 3 ∧ rng (g 1 c) 1 9 ∧ rng (g 2 c) 0 9 ∧ rng (g 3 c) 0 3 ∧ rng (g 4 c) 0 2 ∧ rng (g 5 c) 0 (13 * n) ∧ (g 3 c = 0 → g 6 c = -1)
def InvM (g : LG) (nc m : Nat) : Prop := rng (g 7 m) 0 3 ∧ rng (g 8 m) 1 9 ∧ rng (g 9 m) 0 9 ∧ rng (g 10 m) 0 99 ∧ rng (g 11 m) 0 99 ∧ g 11 m ≤ g 10 m ∧ (g 12 m = -1 → g 11 m = 0) ∧ nOr (g 12 m) nc
def bal (g : LG) (nm : Nat) : Prop := 10 + 8 * g 14 8 + g 14 1 = g 14 0 + sumI (g 10) nm + g 14 2 + g 14 3
def Inv (g : LG) (nc nm n : Nat) : Prop := (g 14 7 = nI nc ∧ g 14 8 = nI nm ∧ nc ≤ 10 ∧ nm ≤ 10) ∧ (∀ c, c < nc → InvC g n c) ∧ (∀ m, m < nm → InvM g nc m) ∧ dEF nc nm (g 12) (g 6) ∧ rng (g 14 0) 0 (10 + 99 * n) ∧ bal g nm ∧ n ≤ 100000
theorem Inv.nc {g : LG} {nc nm n : Nat} (h : Inv g nc nm n) : g 14 7 = nI nc := h.1.1
theorem Inv.nm {g : LG} {nc nm n : Nat} (h : Inv g nc nm n) : g 14 8 = nI nm := h.1.2.1
theorem Inv.c10 {g : LG} {nc nm n : Nat} (h : Inv g nc nm n) : nc ≤ 10 := h.1.2.2.1
theorem Inv.m10 {g : LG} {nc nm n : Nat} (h : Inv g nc nm n) : nm ≤ 10 := h.1.2.2.2
theorem Inv.ch {g : LG} {nc nm n : Nat} (h : Inv g nc nm n) : ∀ c, c < nc → InvC g n c := h.2.1
theorem Inv.mu {g : LG} {nc nm n : Nat} (h : Inv g nc nm n) : ∀ m, m < nm → InvM g nc m := h.2.2.1
theorem Inv.ef {g : LG} {nc nm n : Nat} (h : Inv g nc nm n) : dEF nc nm (g 12) (g 6) := h.2.2.2.1
theorem Inv.lg {g : LG} {nc nm n : Nat} (h : Inv g nc nm n) : rng (g 14 0) 0 (10 + 99 * n) := h.2.2.2.2.1
theorem Inv.bl {g : LG} {nc nm n : Nat} (h : Inv g nc nm n) : bal g nm := h.2.2.2.2.2.1
theorem Inv.le {g : LG} {nc nm n : Nat} (h : Inv g nc nm n) : n ≤ 100000 := h.2.2.2.2.2.2
theorem Inv.cNe {g : LG} {nc nm n : Nat} (h : Inv g nc nm n) : cN g = nc := by
  have := h.c10
  unfold cN
  rw [h.nc, nI_clamp (by omega)]
theorem Inv.mNe {g : LG} {nc nm n : Nat} (h : Inv g nc nm n) : mN g = nm := by
  have := h.m10
  unfold mN
  rw [h.nm, nI_clamp (by omega)]
theorem rng.lt {x : Int32} {lo hi : Nat} (h : rng x lo hi) (hh : hi < 2 ^ 31) : ¬ x < 0 := by
  obtain ⟨k, -, hk, rfl⟩ := h
  exact nI_pos (by omega)
/-- who sits there -/
theorem Inv.sit {g : LG} {nc nm n c : Nat} (h : Inv g nc nm n) (hc : c < nc) : g 6 c = -1 ∨ ∃ m, m < nm ∧ g 6 c = nI m ∧ g 12 m = nI c := h.ef.2 c hc
theorem Inv.nor6 {g : LG} {nc nm n c : Nat} (h : Inv g nc nm n) (hc : c < nc) : nOr (g 6 c) nm := by
  rcases h.sit hc with q | ⟨m, hm, q, -⟩
  · exact Or.inl q
  · exact Or.inr ⟨m, hm, q⟩
theorem Inv.nor12 {g : LG} {nc nm n m : Nat} (h : Inv g nc nm n) (hm : m < nm) : nOr (g 12 m) nc := (h.mu m hm).2.2.2.2.2.2.2
theorem fit_k : ∀ a, a < 10 → ∀ b, b < 10 → 1 ≤ a → 1 ≤ b → ((9 : Int32) - zabs (nI a - nI b) + 0 = nI (9 - (a - b) - (b - a)) ∧ (9 : Int32) - zabs (nI a - nI b) + 4 = nI (13 - (a - b) - (b - a))) := by decide +kernel
theorem comf_k : ∀ a, a < 10 → ∀ b, b < 3 → nI a + 3 * nI b = nI (a + 3 * b) := by decide +kernel
theorem Inv.fitk {g : LG} {nc nm n c m : Nat} (h : Inv g nc nm n) (hc : c < nc) (hm : m < nm) : ∃ k, 1 ≤ k ∧ k ≤ 13 ∧ fit g c m = nI k := by
  obtain ⟨a, ha, ha9, ea⟩ := (h.ch c hc).2.1
  obtain ⟨b, hb, hb9, eb⟩ := (h.mu m hm).2.1
  have hk := fit_k a (by omega) b (by omega) ha hb
  unfold fit
  rw [ea, eb]
  split
  · exact ⟨_, by omega, by omega, hk.2⟩
  · exact ⟨_, by omega, by omega, hk.1⟩
theorem Inv.comfk {g : LG} {nc nm n c : Nat} (h : Inv g nc nm n) (hc : c < nc) : ∃ k, k ≤ 15 ∧ comf g c = nI k := by
  obtain ⟨a, ha, ha9, ea⟩ := (h.ch c hc).2.2.1
  obtain ⟨b, hb, hb9, eb⟩ := (h.ch c hc).2.2.2.2.1
  exact ⟨a + 3 * b, by omega, by unfold comf; rw [ea, eb]; exact comf_k a (by omega) b (by omega)⟩
theorem Inv.fb {g : LG} {nc nm n : Nat} (h : Inv g nc nm n) : Fb g nc nm := ⟨h.c10, h.m10, fun _ _ hc hm => h.fitk hc hm, fun _ hc => h.comfk hc⟩
/-! the changes: the answer, the league, the reasons -/
abbrev Rs : Type := List (Int32 × Int32)
abbrev Chg : Type := Int32 × LG × Rs
def inB (x lo hi : Int32) : Bool := !decide (x < lo) && !decide (hi < x)
def nSit (g : LG) : Int32 := nI (cntB (sits g) (mN g))
def oBringC (g : LG) (rs : Rs) (s d : Int32) : Chg :=
  if (inB s 0 3 && inB d 1 9) = false then (-1012, g, rs)
  else if 10 ≤ cN g then (-1014, g, [(1, nI (cN g))])
  else (nI (cN g), bringC g (cN g) s d, rs)
def oBringM (g : LG) (rs : Rs) (s k d : Int32) : Chg :=
  if (inB s 0 3 && inB k 1 9 && inB d 0 9) = false then (-1012, g, rs)
  else if 10 ≤ mN g then (-1014, g, [(1, nI (mN g))])
  else (nI (mN g), bringM g (mN g) s k d, rs)
def oSeatN (g : LG) (rs : Rs) (c m : Nat) : Chg :=
  if fell g c = true then (-1014, g, [(2, nI m), (3, nI (cntB (fell g) (cN g)))])
  else if taken g c = true then (-1014, g, [(2, nI m), (4, g 6 c)])
  else if sits g m = true then (-1014, g, [(2, nI m), (5, g 12 m)])
  else if wants g c m = false then (-1014, g, [(2, nI m), (6, fit g c m)])
  else if bears g m c = false then (-1014, g, [(2, nI m), (7, comf g c)])
  else (nI (cntB (sits (sitG g c m)) (mN g)), sitG g c m, rs)
def oSeat (g : LG) (rs : Rs) (x y : Int32) : Chg := if (inR x (cN g) && inR y (mN g)) = false then (-1011, g, rs) else oSeatN g rs x.toNatClampNeg y.toNatClampNeg
def oRiseN (g : LG) (rs : Rs) (m : Nat) : Chg := if sits g m = false then (-1014, g, [(8, nSit g)]) else (g 12 m, leaveG g m, rs)
def oRise (g : LG) (rs : Rs) (y : Int32) : Chg := if inR y (mN g) = false then (-1011, g, rs) else oRiseN g rs y.toNatClampNeg
def leaveN (g : LG) : Nat → LG
  | 0 => g
  | n + 1 => leaveG (leaveN g n) n
def seatBy (s : Nat → Int32) (g : LG) : Nat → LG
  | 0 => g
  | n + 1 => if s n = -1 then seatBy s g n else sitG (seatBy s g n) n (s n).toNatClampNeg
/-- who would sit where -/
noncomputable def matS (g : LG) (nc nm : Nat) (c : Nat) : Int32 := @Classical.epsilon LG ⟨g⟩ (fun a => DAr g nc nm a) 2 c
theorem matS_of {g : LG} {nc nm : Nat} {a : LG} (hF : Fb g nc nm) (h : DAr g nc nm a) {c : Nat} (hc : c < nc) : a 2 c = matS g nc nm c := by
  unfold matS
  exact DAr.sitter hF h (@Classical.epsilon_spec_aux LG ⟨g⟩ (fun a => DAr g nc nm a) ⟨a, h⟩) hc
noncomputable def seasG (g : LG) : LG := seatBy (matS (leaveN g (mN g)) (cN g) (mN g)) (leaveN g (mN g)) (cN g)
noncomputable def oSeason (g : LG) (rs : Rs) : Chg := (nI (cntB (sits (gu (seasG g) 14 5 (g 14 5 + 1))) (mN g)), gu (seasG g) 14 5 (g 14 5 + 1), rs)
def oBidN (g : LG) (rs : Rs) (m : Nat) (v : Int32) : Chg :=
  if inB v 0 99 = false then (-1012, g, rs)
  else if sits g m = false then (-1014, g, [(8, nSit g)])
  else if g 10 m < v then (-1014, g, [(9, g 10 m)])
  else (g 11 m, gu g 11 m v, rs)
def oBid (g : LG) (rs : Rs) (y v : Int32) : Chg := if inR y (mN g) = false then (-1011, g, rs) else oBidN g rs y.toNatClampNeg v
def buyer (g : LG) : Int32 := (highB g (-1) (mN g)).1
def nextB (g : LG) : Int32 := (highB g (buyer g) (mN g)).1
def price (g : LG) : Int32 := if nextB g = -1 then 0 else g 11 (nextB g).toNatClampNeg
def sellG (g : LG) (v : Int32) : LG :=
  gu (noBids (gu (gu (gu g 10 (buyer g).toNatClampNeg (g 10 (buyer g).toNatClampNeg + -price g)) 14 0 (g 14 0 + price g)) 2 (g 12 (buyer g).toNatClampNeg).toNatClampNeg v) (mN g)) 14 6 (g 14 6 + 1)
def oSell (g : LG) (rs : Rs) (v : Int32) : Chg :=
  if inB v 1 9 = false then (-1012, g, rs)
  else if buyer g = -1 then (-1014, g, [(10, nSit g)])
  else (price g, sellG g v, rs)
/-- a concert, chair by chair: the league and the sum of the fits -/
def conC (g : LG) (w : Int32) : Nat → LG × Int32
  | 0 => (g, 0)
  | n + 1 => if taken (conC g w n).1 n = true then (wearG (playG (conC g w n).1 n (who (conC g w n).1 n)) n w, (conC g w n).2 + fit (conC g w n).1 n (who (conC g w n).1 n)) else conC g w n
def oConcert (g : LG) (rs : Rs) (w : Int32) : Chg :=
  if inB w 1 4 = false then (-1012, g, rs)
  else if cntB (sits g) (mN g) = 0 then (-1014, g, [(11, nI (mN g))])
  else ((conC g w (cN g)).2, gu (conC g w (cN g)).1 14 4 (g 14 4 + 1), rs)
def oRaiseN (g : LG) (rs : Rs) (c : Nat) : Chg :=
  if 3 ≤ g 3 c then (-1014, g, [(12, g 3 c)])
  else if g 14 0 < 2 then (-1014, g, [(9, g 14 0)])
  else (g 14 0 - 2, gu (gu (gu g 3 c 3) 14 0 (g 14 0 - 2)) 14 2 (g 14 2 + 2), rs)
def oRaise (g : LG) (rs : Rs) (x : Int32) : Chg := if inR x (cN g) = false then (-1011, g, rs) else oRaiseN g rs x.toNatClampNeg
def oPromoteN (g : LG) (rs : Rs) (c : Nat) : Chg :=
  if 2 ≤ g 4 c then (-1014, g, [(13, g 5 c)])
  else if g 5 c < 20 * (g 4 c + 1) then (-1014, g, [(14, 20 * (g 4 c + 1) - g 5 c)])
  else (g 4 c + 1, gu g 4 c (g 4 c + 1), rs)
def oPromote (g : LG) (rs : Rs) (x : Int32) : Chg := if inR x (cN g) = false then (-1011, g, rs) else oPromoteN g rs x.toNatClampNeg
/-- one order of a text -/
noncomputable def oOrder (g : LG) (rs : Rs) (o : Ord) : Chg :=
  if o.1 = 104 then oBringC g rs o.2.1 o.2.2.1
  else if o.1 = 109 then oBringM g rs o.2.1 o.2.2.1 o.2.2.2
  else if o.1 = 115 then oSeat g rs o.2.1 o.2.2.1
  else if o.1 = 114 then oRise g rs o.2.1
  else if o.1 = 97 then oSeason g rs
  else if o.1 = 98 then oBid g rs o.2.1 o.2.2.1
  else if o.1 = 99 then oSell g rs o.2.1
  else if o.1 = 112 then oConcert g rs o.2.1
  else if o.1 = 117 then oRaise g rs o.2.1
  else if o.1 = 116 then oPromote g rs o.2.1
  else (-1012, g, rs)
/-! the class's blocks behind a change -/
def FY (M M1 : Mem) : Prop := ∀ b, b ≠ 9 → b ≠ 11 → b ≠ 12 → M1 b = M b
theorem FY.rf {M : Mem} : FY M M := fun _ _ _ _ => rfl
theorem FY.s9 {M M1 M2 : Mem} {g : LG} (h : FY M M1) (h2 : S9 M1 g M2) : FY M M2 := fun b h9 h11 h12 => (h2.2 b h9).trans (h b h9 h11 h12)
theorem FY.sa {M M1 M2 : Mem} {a : LG} {K : Nat} (h : FY M M1) (h2 : SA K M1 a M2) (hK : K = 11 ∨ K = 12) : FY M M2 := fun b h9 h11 h12 => (h2.2 b (by omega)).trans (h b h9 h11 h12)
def CX (M : Mem) (g : LG) (rs : Rs) (M1 : Mem) : Prop := gX (M1 9) = g ∧ RSn M1 rs ∧ ∀ b, b ≠ 9 → b ≠ 11 → b ≠ 12 → b ≠ 16 → M1 b = M b
theorem RSn.like {M M1 : Mem} {rs : Rs} (h : RSn M rs) (e : M1 16 = M 16) : RSn M1 rs := by
  unfold RSn at h ⊢
  rw [e]
  exact h
theorem CX.same {M M1 M2 : Mem} {g : LG} {rs : Rs} (hR : RSn M rs) (F : FY M M1) (h : S9 M1 g M2) : CX M g rs M2 :=
  ⟨h.1, hR.like (F.s9 h 16 (by decide) (by decide) (by decide)), fun b h9 h11 h12 _ => F.s9 h b h9 h11 h12⟩
theorem CX.refuse {M M1 M2 M3 : Mem} {g : LG} {rs : Rs} (F : FY M M1) (h : S9 M1 g M2) (hr : RSn M3 rs ∧ Off 16 M2 M3) : CX M g rs M3 :=
  ⟨by rw [hr.2 9 (by decide)]; exact h.1, hr.1, fun b h9 h11 h12 h16 => (hr.2 b h16).trans (F.s9 h b h9 h11 h12)⟩
def OX (M : Mem) (o : Chg) (v : Int32) (M1 : Mem) : Prop := v = o.1 ∧ CX M o.2.1 o.2.2 M1
theorem OX.of {M M1 : Mem} {o : Chg} {v : Int32} {g : LG} {rs : Rs} (h : o = (v, g, rs)) (c : CX M g rs M1) : OX M o v M1 := by
  subst h
  exact ⟨rfl, c⟩
theorem unsit_off {g : LG} {x : Int32} {j k : Nat} (h : j ≠ 6) : unsit g x j k = g j k := by
  unfold unsit
  split
  · rfl
  · exact gu_ne (fun q => h q.1)
theorem leaveG_off {g : LG} {m j k : Nat} (h : j ≠ 6 ∧ j ≠ 11 ∧ j ≠ 12) : leaveG g m j k = g j k := by
  unfold leaveG
  rw [gu_ne (fun q => h.2.1 q.1), gu_ne (fun q => h.2.2 q.1), unsit_off h.1]
theorem leaveN_off {g : LG} {n j k : Nat} (h : j ≠ 6 ∧ j ≠ 11 ∧ j ≠ 12) : leaveN g n j k = g j k := by
  induction n with
  | zero => rfl
  | succ n ih => unfold leaveN; rw [leaveG_off h, ih]
theorem sitG_off {g : LG} {c m j k : Nat} (h : j ≠ 6 ∧ j ≠ 12) : sitG g c m j k = g j k := by
  unfold sitG
  rw [gu_ne (fun q => h.2 q.1), gu_ne (fun q => h.1 q.1)]
theorem seatBy_off {s : Nat → Int32} {g : LG} {n j k : Nat} (h : j ≠ 6 ∧ j ≠ 12) : seatBy s g n j k = g j k := by
  induction n with
  | zero => rfl
  | succ n ih =>
    unfold seatBy
    split
    · exact ih
    · rw [sitG_off h, ih]
theorem seasG_off {g : LG} {j k : Nat} (h : j ≠ 6 ∧ j ≠ 11 ∧ j ≠ 12) : seasG g j k = g j k := by
  unfold seasG
  rw [seatBy_off ⟨h.1, h.2.2⟩, leaveN_off h]
theorem playG_off {g : LG} {c m j k : Nat} (h : j ≠ 5 ∧ j ≠ 10 ∧ j ≠ 13 ∧ (j = 14 → k ≠ 1 ∧ k ≠ 3)) : playG g c m j k = g j k := by
  unfold playG
  rw [gu_ne (fun q => h.1 q.1), gu_ne (fun q => (h.2.2.2 q.1).2 q.2), gu_ne (fun q => (h.2.2.2 q.1).1 q.2), gu_ne (fun q => h.2.2.1 q.1), gu_ne (fun q => h.2.1 q.1)]
theorem wearG_off {g : LG} {c j k : Nat} {w : Int32} (h : j ≠ 3 ∧ j ≠ 6 ∧ j ≠ 11 ∧ j ≠ 12) : wearG g c w j k = g j k := by
  unfold wearG
  split
  · rw [leaveG_off h.2, gu_ne (fun q => h.1 q.1)]
  · exact gu_ne (fun q => h.1 q.1)
theorem conC_14 {g : LG} {w : Int32} {n k : Nat} (h : k ≠ 1 ∧ k ≠ 3) : (conC g w n).1 14 k = g 14 k := by
  induction n with
  | zero => rfl
  | succ n ih =>
    unfold conC
    split
    · show wearG _ n w 14 k = _
      rw [wearG_off (by decide), playG_off ⟨by decide, by decide, by decide, fun _ => h⟩, ih]
    · exact ih
/-- leaving: what becomes of the seats -/
theorem leaveG_12 {g : LG} {m k : Nat} : leaveG g m 12 k = if k = m then -1 else g 12 k := by
  unfold leaveG
  rw [gu_ne (by omega), gu_r]
  by_cases e : k = m
  · simp [e]
  · simp only [e, and_false, if_false]
    unfold unsit
    split
    · rfl
    · exact gu_ne (by omega)
theorem leaveN_12 {g : LG} {n k : Nat} : leaveN g n 12 k = if k < n then -1 else g 12 k := by
  induction n with
  | zero => rfl
  | succ n ih =>
    unfold leaveN
    rw [leaveG_12, ih]
    by_cases e : k = n
    · rw [if_pos e, if_pos (by omega)]
    · rw [if_neg e]
      by_cases q : k < n
      · rw [if_pos q, if_pos (by omega)]
      · rw [if_neg q, if_neg (by omega)]
theorem fit_congr {g h : LG} (h0 : h 0 = g 0) (h1 : h 1 = g 1) (h7 : h 7 = g 7) (h8 : h 8 = g 8) : fit h = fit g := by
  funext c m
  unfold fit
  rw [h0, h1, h7, h8]
theorem comf_congr {g h : LG} (h2 : h 2 = g 2) (h4 : h 4 = g 4) : comf h = comf g := by
  funext c
  unfold comf
  rw [h2, h4]
theorem Fb_congr {g h : LG} {nc nm : Nat} (hF : Fb g nc nm) (h0 : h 0 = g 0) (h1 : h 1 = g 1) (h2 : h 2 = g 2) (h4 : h 4 = g 4) (h7 : h 7 = g 7) (h8 : h 8 = g 8) : Fb h nc nm := by
  unfold Fb at hF ⊢
  rw [fit_congr h0 h1 h7 h8, comf_congr h2 h4]
  exact hF
theorem Fb_leave {g : LG} {nc nm n : Nat} (hF : Fb g nc nm) : Fb (leaveN g n) nc nm :=
  Fb_congr hF (funext fun _ => leaveN_off (by decide)) (funext fun _ => leaveN_off (by decide)) (funext fun _ => leaveN_off (by decide)) (funext fun _ => leaveN_off (by decide)) (funext fun _ => leaveN_off (by decide)) (funext fun _ => leaveN_off (by decide))
theorem highB_no {g : LG} {but : Int32} {n : Nat} : nOr (highB g but n).1 n := by
  induction n with
  | zero => exact Or.inl rfl
  | succ n ih =>
    unfold highB
    split
    · exact Or.inr ⟨n, by omega, rfl⟩
    · exact ih.le (by omega)
theorem highB_spec {g : LG} {but : Int32} {n : Nat} (hb : ∀ m, m < n → rng (g 11 m) 0 99) : ((highB g but n) = (-1, 0) ∧ ∀ m, m < n → nI m ≠ but → g 11 m = 0) ∨ ∃ b, b < n ∧ highB g but n = (nI b, g 11 b) ∧ nI b ≠ but ∧ g 11 b ≠ 0 ∧ ∀ m, m < n → nI m ≠ but → g 11 m ≤ g 11 b := by
  induction n with
  | zero => exact Or.inl ⟨rfl, fun m hm => absurd hm (Nat.not_lt_zero m)⟩
  | succ n ih =>
    obtain ⟨x, -, hx, ex⟩ := hb n (by omega)
    rcases ih (fun m hm => hb m (by omega)) with ⟨q1, q2⟩ | ⟨b, hbn, q1, q2, q3, q4⟩
    · by_cases e : nI n ≠ but ∧ ¬ g 11 n ≤ (highB g but n).2
      · refine Or.inr ⟨n, by omega, by (conv => lhs; unfold highB); rw [if_pos e], e.1, fun q => ?_, fun m hm hne => ?_⟩
        · have e2 := e.2
          rw [q1, q] at e2
          exact e2 (Int32.le_refl 0)
        · by_cases em : m = n
          · subst em; exact Int32.le_refl _
          · rw [q2 m (by omega) hne, ex]; exact nI_le (a := 0) (Nat.zero_le x) (by omega)
      · refine Or.inl ⟨by (conv => lhs; unfold highB); rw [if_neg e]; exact q1, fun m hm hne => ?_⟩
        by_cases em : m = n
        · subst em
          have : g 11 m ≤ (highB g but m).2 := Decidable.byContradiction fun z => e ⟨hne, z⟩
          rw [q1] at this
          have this : g 11 m ≤ 0 := this
          rw [ex] at this ⊢
          rw [Int32.le_iff_toInt_le, nI_toInt (by omega)] at this
          have this : (x : Int) ≤ 0 := this
          have : x = 0 := by omega
          subst this
          rfl
        · exact q2 m (by omega) hne
    · by_cases e : nI n ≠ but ∧ ¬ g 11 n ≤ (highB g but n).2
      · have e2 := e.2
        rw [q1] at e2
        have e2 : ¬ g 11 n ≤ g 11 b := e2
        refine Or.inr ⟨n, by omega, by (conv => lhs; unfold highB); rw [if_pos e], e.1, fun q => ?_, fun m hm hne => ?_⟩
        · obtain ⟨y, -, hy, ey⟩ := hb b (by omega)
          rw [q, ey] at e2
          exact e2 (nI_le (a := 0) (Nat.zero_le y) (by omega))
        · by_cases em : m = n
          · subst em; exact Int32.le_refl _
          · have := q4 m (by omega) hne
            rw [Int32.le_iff_toInt_le] at this e2 ⊢
            omega
      · refine Or.inr ⟨b, by omega, by (conv => lhs; unfold highB); rw [if_neg e]; exact q1, q2, q3, fun m hm hne => ?_⟩
        by_cases em : m = n
        · subst em
          refine Decidable.byContradiction fun z => e ⟨hne, ?_⟩
          rw [q1]; exact z
        · exact q4 m (by omega) hne
theorem i32_nle {a b : Int32} : ¬ a ≤ b ↔ b < a := by rw [Int32.lt_iff_toInt_lt, Int32.le_iff_toInt_le]; omega
