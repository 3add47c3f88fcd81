/-! the league as numbers: rows 0-6 of chairs (section, need, cushion, stand, tier, marks, sitter), rows 7-13 of musicians (section, skill, demand, coins, bid, chair, concerts), row 14: league, halls, spent, lost, concerts, seasons, sold, chairs, musicians -/
abbrev LG : Type := Nat → Nat → Int32
/-- as the class holds it -/
def gX (B : Nat → Nat → Int32) : LG := fun j k => if j < 14 then (if k < 10 then B (5 + 2 * j) k else 0) else if j = 14 then (if k < 7 then B 3 k else if k = 7 then B 1 0 else if k = 8 then B 2 0 else 0) else 0
/-- as the reference holds it: in one row -/
def gF (f : Nat → Int32) : LG := fun j k => if j < 7 then (if k < 10 then f (9 + 7 * k + j) else 0) else if j < 14 then (if k < 10 then f (79 + 7 * k + (j - 7)) else 0) else if j = 14 then (if k < 9 then f k else 0) else 0
def gu (g : LG) (j k : Nat) (v : Int32) : LG := fun j' k' => if j' = j ∧ k' = k then v else g j' k'
theorem gu_same {g : LG} {j k : Nat} {v : Int32} : gu g j k v j k = v := by simp [gu]
theorem gu_ne {g : LG} {j k j' k' : Nat} {v : Int32} (h : ¬ (j' = j ∧ k' = k)) : gu g j k v j' k' = g j' k' := if_neg h
theorem gX_row {B : Nat → Nat → Int32} {j k : Nat} (hj : j < 14) (hk : k < 10) : gX B j k = B (5 + 2 * j) k := by simp [gX, hj, hk]
theorem gX_bk {B : Nat → Nat → Int32} {k : Nat} (hk : k < 7) : gX B 14 k = B 3 k := by simp [gX, hk]
theorem gX_cc {B : Nat → Nat → Int32} : gX B 14 7 = B 1 0 := by simp [gX]
theorem gX_cm {B : Nat → Nat → Int32} : gX B 14 8 = B 2 0 := by simp [gX]
theorem gX_put {M : Mem} {b j k : Nat} {v : Int32} (hj : j < 14) (hk : k < 10) : gX (up3 M b (5 + 2 * j) k v b) = gu (gX (M b)) j k v := by
  funext j' k'
  simp only [gX, gF, gu, up3, upd, true_and]
  (repeat' split) <;> first | rfl | omega | contradiction | simp_all
theorem gX_pbk {M : Mem} {b k : Nat} {v : Int32} (hk : k < 7) : gX (up3 M b 3 k v b) = gu (gX (M b)) 14 k v := by
  funext j' k'
  simp only [gX, gF, gu, up3, upd, true_and]
  (repeat' split) <;> first | rfl | omega | contradiction | simp_all
theorem gX_pcc {M : Mem} {b : Nat} {v : Int32} : gX (up3 M b 1 0 v b) = gu (gX (M b)) 14 7 v := by
  funext j' k'
  simp only [gX, gF, gu, up3, upd, true_and]
  (repeat' split) <;> first | rfl | omega | contradiction | simp_all
theorem gX_pcm {M : Mem} {b : Nat} {v : Int32} : gX (up3 M b 2 0 v b) = gu (gX (M b)) 14 8 v := by
  funext j' k'
  simp only [gX, gF, gu, up3, upd, true_and]
  (repeat' split) <;> first | rfl | omega | contradiction | simp_all
theorem gF_ch {f : Nat → Int32} {j k : Nat} (hj : j < 7) (hk : k < 10) : gF f j k = f (9 + 7 * k + j) := by simp [gF, hj, hk]
theorem gF_mu {f : Nat → Int32} {j k : Nat} (hj : j < 7) (hk : k < 10) : gF f (7 + j) k = f (79 + 7 * k + j) := by
  unfold gF
  rw [if_neg (by omega), if_pos (by omega), if_pos hk]
  congr 1
  omega
theorem gF_bk {f : Nat → Int32} {k : Nat} (hk : k < 9) : gF f 14 k = f k := by simp [gF, hk]
theorem gF_pch {f : Nat → Int32} {j k : Nat} {v : Int32} (hj : j < 7) (hk : k < 10) : gF (upd f (9 + 7 * k + j) v) = gu (gF f) j k v := by
  funext j' k'
  simp only [gX, gF, gu, up3, upd, true_and]
  (repeat' split) <;> first | rfl | omega | contradiction | simp_all
theorem gF_pmu {f : Nat → Int32} {j k : Nat} {v : Int32} (hj : j < 7) (hk : k < 10) : gF (upd f (79 + 7 * k + j) v) = gu (gF f) (7 + j) k v := by
  funext j' k'
  simp only [gX, gF, gu, up3, upd, true_and]
  (repeat' split) <;> first | rfl | omega | contradiction | simp_all
theorem gF_pbk {f : Nat → Int32} {k : Nat} {v : Int32} (hk : k < 9) : gF (upd f k v) = gu (gF f) 14 k v := by
  funext j' k'
  simp only [gX, gF, gu, up3, upd, true_and]
  (repeat' split) <;> first | rfl | omega | contradiction | simp_all
/-! the document's words of one league -/
def zabs (x : Int32) : Int32 := if 0 ≤ x then x else 0 - x
def fit (g : LG) (c m : Nat) : Int32 := 9 - zabs (g 1 c - g 8 m) + (if g 0 c = g 7 m then 4 else 0)
def wants (g : LG) (c m : Nat) : Bool := decide (6 ≤ fit g c m)
def comf (g : LG) (c : Nat) : Int32 := g 2 c + 3 * g 4 c
def fell (g : LG) (c : Nat) : Bool := decide (g 3 c = 0)
def bears (g : LG) (m c : Nat) : Bool := !fell g c && decide (g 9 m ≤ comf g c)
/-- by a difference, then the lower number -/
def zmore (d : Int32) (a b : Nat) : Bool := decide (0 < d) || (decide (d = 0) && decide (a < b))
def rhad (g : LG) (c a b : Nat) : Bool := zmore (fit g c a - fit g c b) a b
def rsat (g : LG) (a b : Nat) : Bool := zmore (comf g a - comf g b) a b
def taken (g : LG) (c : Nat) : Bool := !decide (g 6 c = -1)
def sits (g : LG) (m : Nat) : Bool := !decide (g 12 m = -1)
/-- how many below n -/
def cntB (p : Nat → Bool) : Nat → Nat
  | 0 => 0
  | n + 1 => cntB p n + (if p n then 1 else 0)
def sumI (f : Nat → Int32) : Nat → Int32
  | 0 => 0
  | n + 1 => sumI f n + f n
theorem cntB_le (p : Nat → Bool) (n : Nat) : cntB p n ≤ n := by
  induction n with
  | zero => exact Nat.le_refl 0
  | succ n ih => unfold cntB; split <;> omega
/-- the class's league: the block of its own changed, nothing else -/
def S9 (M : Mem) (g : LG) (M' : Mem) : Prop := gX (M' 9) = g ∧ ∀ b, b ≠ 9 → M' b = M b
theorem S9.rf {M : Mem} {g : LG} (h : gX (M 9) = g) : S9 M g M := ⟨h, fun _ _ => rfl⟩
theorem up3_off {M : Mem} {b r k b' : Nat} {v : Int32} (h : b' ≠ b) : up3 M b r k v b' = M b' := by
  funext r' k'
  exact up3_ne (fun q => h q.1)
theorem S9.put {M M1 : Mem} {g : LG} {r k : Nat} {v : Int32} (j : Nat) (h : S9 M g M1) (hr : r = 5 + 2 * j) (hj : j < 14) (hk : k < 10) : S9 M (gu g j k v) (up3 M1 9 r k v) := by
  subst hr
  exact ⟨by rw [gX_put hj hk, h.1], fun b hb => by rw [up3_off hb, h.2 b hb]⟩
theorem S9.pbk {M M1 : Mem} {g : LG} {k : Nat} {v : Int32} (h : S9 M g M1) (hk : k < 7) : S9 M (gu g 14 k v) (up3 M1 9 3 k v) := ⟨by rw [gX_pbk hk, h.1], fun b hb => by rw [up3_off hb, h.2 b hb]⟩
theorem S9.pcc {M M1 : Mem} {g : LG} {v : Int32} (h : S9 M g M1) : S9 M (gu g 14 7 v) (up3 M1 9 1 0 v) := ⟨by rw [gX_pcc, h.1], fun b hb => by rw [up3_off hb, h.2 b hb]⟩
theorem S9.pcm {M M1 : Mem} {g : LG} {v : Int32} (h : S9 M g M1) : S9 M (gu g 14 8 v) (up3 M1 9 2 0 v) := ⟨by rw [gX_pcm, h.1], fun b hb => by rw [up3_off hb, h.2 b hb]⟩
theorem S9.row {M M1 : Mem} {g : LG} {r k : Nat} (j : Nat) (h : S9 M g M1) (hr : r = 5 + 2 * j) (hj : j < 14) (hk : k < 10) : M1 9 r k = g j k := by
  subst hr
  rw [← h.1, gX_row hj hk]
theorem S9.trans {M M1 M2 : Mem} {g g2 : LG} (h : S9 M g M1) (h2 : S9 M1 g2 M2) : S9 M g2 M2 := ⟨h2.1, fun b hb => (h2.2 b hb).trans (h.2 b hb)⟩
theorem z_gen {gg : ZG} {E : ZE} {M : Mem} {lv : List (Nat × Value)} {pc : Nat} {st : List Value} {P : Mem → Prop} (h : P M) (k : ∀ M1, P M1 → Z gg E M1 lv pc st) : Z gg E M lv pc st := k M h
theorem S9.cc {M M1 : Mem} {g : LG} (h : S9 M g M1) : M1 9 1 0 = g 14 7 := by rw [← h.1, gX_cc]
theorem S9.cm {M M1 : Mem} {g : LG} (h : S9 M g M1) : M1 9 2 0 = g 14 8 := by rw [← h.1, gX_cm]
theorem S9.bk {M M1 : Mem} {g : LG} {k : Nat} (h : S9 M g M1) (hk : k < 7) : M1 9 3 k = g 14 k := by rw [← h.1, gX_bk hk]
/-- a number of the caller's that counts something -/
def inR (x : Int32) (n : Nat) : Bool := !decide (x < 0) && !decide (nI n ≤ x)
theorem inR_of {x : Int32} {n : Nat} (h : inR x n = true) (hn : n < 2 ^ 31) : ∃ k, k < n ∧ x = nI k := by
  unfold inR at h
  simp only [Bool.and_eq_true, Bool.not_eq_true', decide_eq_false_iff_not] at h
  rcases pk_ix x hn with h1 | h1 | h1
  · exact absurd h1 h.1
  · exact absurd h1 h.2
  · exact h1
theorem inR_nI {k n : Nat} (h : k < n) (hn : n < 2 ^ 31) : inR (nI k) n = true := by
  unfold inR
  have h1 : ¬ nI k < 0 := nI_pos (by omega)
  have h2 : ¬ nI n ≤ nI k := nI_ge h hn
  simp [h1, h2]
theorem nI_inj {a b : Nat} (ha : a < 2 ^ 31) (hb : b < 2 ^ 31) (h : nI a = nI b) : a = b := (nI_eq ha hb).mp h
theorem nI_ne_m1 {a : Nat} (ha : a < 2 ^ 31) : ¬ nI a = -1 := by
  intro h
  have := nI_pos ha
  rw [h] at this
  exact this (by decide)
/-- who bids the most of the first n but one -/
def highB (g : LG) (but : Int32) : Nat → Int32 × Int32
  | 0 => (-1, 0)
  | n + 1 => if nI n ≠ but ∧ ¬ g 11 n ≤ (highB g but n).2 then (nI n, g 11 n) else highB g but n
def noBids (g : LG) : Nat → LG
  | 0 => g
  | n + 1 => gu (noBids g n) 11 n 0
theorem noBids_off {g : LG} {n j k : Nat} (h : j ≠ 11) : noBids g n j k = g j k := by
  induction n with
  | zero => rfl
  | succ n ih => unfold noBids; rw [gu_ne (fun q => h q.1), ih]
def mAhead (g : LG) (a b : Nat) : Bool := if g 10 a - g 10 b = 0 then (if sits g a = sits g b then decide (a < b) else sits g a) else decide (0 < g 10 a - g 10 b)
def cAhead (g : LG) (a b : Nat) : Bool := decide (0 < g 5 a - g 5 b) || (decide (g 5 a - g 5 b = 0) && rsat g a b)
def bringC (g : LG) (c : Nat) (sec need : Int32) : LG := gu (gu (gu (gu (gu (gu (gu (gu g 0 c sec) 1 c need) 2 c 0) 3 c 3) 4 c 0) 5 c 0) 6 c (-1)) 14 7 (nI (c + 1))
def bringM (g : LG) (m : Nat) (sec skill dem : Int32) : LG := gu (gu (gu (gu (gu (gu (gu (gu g 7 m sec) 8 m skill) 9 m dem) 10 m 8) 11 m 0) 12 m (-1)) 13 m 0) 14 8 (nI (m + 1))
theorem S9.more {M M1 : Mem} {g : LG} {r k : Nat} {v : Int32} (j : Nat) (h : S9 M g M1) (hr : r = 5 + 2 * j) (hj : j < 14) (hk : k < 10) : S9 M (gu g j k (g j k + v)) (up3 M1 9 r k (M1 9 r k + v)) := by
  rw [h.row j hr hj hk]
  exact h.put j hr hj hk
/-- who sits on a chair, as a counted number -/
def who (g : LG) (c : Nat) : Nat := (g 6 c).toNatClampNeg
def sitG (g : LG) (c m : Nat) : LG := gu (gu g 6 c (nI m)) 12 m (nI c)
/-- -1, or a number below n -/
def nOr (x : Int32) (n : Nat) : Prop := x = -1 ∨ ∃ k, k < n ∧ x = nI k
def unsit (g : LG) (x : Int32) : LG := if x = -1 then g else gu g 6 x.toNatClampNeg (-1)
def leaveG (g : LG) (m : Nat) : LG := gu (gu (unsit g (g 12 m)) 12 m (-1)) 11 m 0
def payC (g : LG) (c m : Nat) : Int32 := fit g c m / 3
def keptC (g : LG) (c m : Nat) : Int32 := if 99 - g 10 m < payC g c m then 99 - g 10 m else payC g c m
def playG (g : LG) (c m : Nat) : LG := gu (gu (gu (gu (gu g 10 m (g 10 m + keptC g c m)) 13 m (g 13 m + 1)) 14 1 (g 14 1 + payC g c m)) 14 3 (g 14 3 + (payC g c m - keptC g c m))) 5 c (g 5 c + fit g c m)
def wearOf (g : LG) (c : Nat) (w : Int32) : Int32 := if taken g c then (if g 1 c ≤ g 8 (who g c) then (if w = 4 then 1 else 0) else w) else 0
def standW (g : LG) (c : Nat) (w : Int32) : Int32 := if g 3 c - wearOf g c w < 0 then 0 else g 3 c - wearOf g c w
def wearG (g : LG) (c : Nat) (w : Int32) : LG := if standW g c w = 0 then leaveG (gu g 3 c 0) (who g c) else gu g 3 c (standW g c w)
/-! copies of blocks of the class -/
def zlen (r : Nat) : Nat := if r ≤ 2 then 1 else if r = 3 then 7 else 10
def CpP (M : Mem) (b b2 : Nat) (rs : List Nat) (M' : Mem) : Prop := (∀ b', b' ≠ b → M' b' = M b') ∧ ∀ r k, k < zlen r → M' b r k = if r ∈ rs then M b2 r k else M b r k
theorem CpP.rf (M : Mem) (b b2 : Nat) : CpP M b b2 [] M := ⟨fun _ _ => rfl, fun r k _ => by simp⟩
theorem CpP.s1 {M M1 : Mem} {b b2 r : Nat} {rs : List Nat} {v : Int32} (h : CpP M b b2 rs M1) (hr : zlen r = 1) (hv : v = M b2 r 0) : CpP M b b2 (r :: rs) (up3 M1 b r 0 v) := by
  refine ⟨fun b' hb => by rw [up3_off hb]; exact h.1 b' hb, fun r' k hk => ?_⟩
  by_cases e : r' = r
  · subst e
    have : k = 0 := by omega
    subst this
    rw [up3_same, hv, if_pos List.mem_cons_self]
  · rw [up3_ne (fun q => e q.2.1), h.2 r' k hk]
    simp [e]
theorem CpP.row {M M1 : Mem} {b b2 r : Nat} {rs : List Nat} (h : CpP M b b2 rs M1) (hne : b2 ≠ b) : CpP M b b2 (r :: rs) (up2 M1 b r (fun j => if j < 10 then M1 b2 r j else M1 b r j)) := by
  refine ⟨fun b' hb => by funext r'; rw [up2_ne (fun q => hb q.1)]; rw [h.1 b' hb], fun r' k hk => ?_⟩
  by_cases e : r' = r
  · subst e
    have : k < 10 := by unfold zlen at hk; (repeat' split at hk) <;> omega
    rw [up2_row, if_pos this, h.1 b2 hne, if_pos List.mem_cons_self]
  · rw [up2_ne (fun q => e q.2), h.2 r' k hk]
    simp [e]
theorem CpP.trans {M M1 M2 : Mem} {b b2 : Nat} {rs rs2 : List Nat} (h : CpP M b b2 rs M1) (hne : b2 ≠ b) (h2 : CpP M1 b b2 rs2 M2) : CpP M b b2 (rs2 ++ rs) M2 := by
  refine ⟨fun b' hb => (h2.1 b' hb).trans (h.1 b' hb), fun r k hk => ?_⟩
  rw [h2.2 r k hk, h.2 r k hk, h.1 b2 hne]
  by_cases e : r ∈ rs2 <;> by_cases e2 : r ∈ rs <;> simp [e, e2]
theorem CpP.all {M M' : Mem} {b b2 : Nat} {rs : List Nat} (h : CpP M b b2 rs M') (h1 : 1 ∈ rs) (h2 : 2 ∈ rs) (h3 : 3 ∈ rs) (hr : ∀ j, j < 14 → 5 + 2 * j ∈ rs) : gX (M' b) = gX (M b2) := by
  funext j k
  unfold gX
  by_cases hj : j < 14
  · rw [if_pos hj, if_pos hj]
    by_cases hk : k < 10
    · rw [if_pos hk, if_pos hk, h.2 (5 + 2 * j) k (by unfold zlen; rw [if_neg (by omega), if_neg (by omega)]; exact hk), if_pos (hr j hj)]
    · rw [if_neg hk, if_neg hk]
  · rw [if_neg hj, if_neg hj, h.2 1 0 (by decide), if_pos h1, h.2 2 0 (by decide), if_pos h2]
    by_cases hk : k < 7
    · rw [if_pos hk, if_pos hk, h.2 3 k (show k < 7 from hk), if_pos h3]
    · rw [if_neg hk, if_neg hk]
theorem zkd_st {b r : Nat} (hb : b ≤ 10) (hr : r ≤ 31) : zkd b r = zst r := by
  unfold zkd zkd1
  rw [if_pos ⟨by omega, hr⟩, if_pos hb]
theorem zn_st {b r : Nat} (hb : b ≤ 10) : zn b r = 10 := by unfold zn; rw [if_pos (by omega)]
/-! the other parts of the class: lists of signs, reasons, orders -/
def Off (b : Nat) (M M' : Mem) : Prop := ∀ b', b' ≠ b → M' b' = M b'
theorem Off.rf (b : Nat) (M : Mem) : Off b M M := fun _ _ => rfl
theorem Off.tr {b : Nat} {M M1 M2 : Mem} (h : Off b M M1) (h2 : Off b M1 M2) : Off b M M2 := fun b' hb => (h2 b' hb).trans (h b' hb)
theorem Off.up {b r k : Nat} {M M1 : Mem} {v : Int32} (h : Off b M M1) : Off b M (up3 M1 b r k v) := fun b' hb => by rw [up3_off hb, h b' hb]
/-- the signs of a block -/
def TS (M : Mem) (b : Nat) (t : List Int32) : Prop := M b 0 2 = nI t.length ∧ t.length ≤ zn b 5 ∧ ∀ i, i < t.length → M b 5 i = t.getD i 0
def atL (t : List Int32) (x : Int32) : Int32 := if inR x t.length then t.getD x.toNatClampNeg 0 else -1
def chr (t : List Int32) (p : Nat) : Int32 := if p < t.length then t.getD p 0 else -1
theorem atL_nI {t : List Int32} {p : Nat} (ht : t.length < 2 ^ 31) (hp : p < 2 ^ 31) : atL t (nI p) = chr t p := by
  unfold atL chr
  by_cases h : p < t.length
  · rw [inR_nI h ht, if_pos rfl, if_pos h, nI_clamp hp]
  · have : inR (nI p) t.length = false := by
      unfold inR
      have : nI t.length ≤ nI p := nI_le (by omega) hp
      simp [this]
    rw [this, if_neg (by decide), if_neg h]
def digs (k : Nat) : List Int32 := if k ≤ 9 then [nI (48 + k % 10)] else [nI (48 + k / 10), nI (48 + k % 10)]
theorem TS.push {M M1 : Mem} {b : Nat} {t : List Int32} {v : Int32} (h : TS M b t) (hl : t.length < zn b 5) (h1 : M1 = up3 (up3 M b 5 t.length v) b 0 2 (nI (t.length + 1))) : TS M1 b (t ++ [v]) := by
  subst h1
  refine ⟨by rw [up3_same, List.length_append]; rfl, by rw [List.length_append]; exact hl, fun i hi => ?_⟩
  rw [up3_ne (by omega)]
  rw [List.length_append, List.length_singleton] at hi
  by_cases e : i = t.length
  · subst e
    rw [up3_same]
    simp [List.getD]
  · rw [up3_ne (by omega), h.2.2 i (by omega)]
    simp only [List.getD]
    rw [List.getElem?_append_left (by omega)]
theorem TS.clr {M : Mem} {b : Nat} : TS (up3 M b 0 2 0) b [] := ⟨by rw [up3_same]; rfl, Nat.zero_le _, fun i hi => absurd hi (Nat.not_lt_zero i)⟩
/-- the reasons -/
def RSn (M : Mem) (rs : List (Int32 × Int32)) : Prop := M 16 0 2 = nI rs.length ∧ rs.length ≤ 3 ∧ ∀ i, i < rs.length → M 16 5 i = (rs.getD i (0, 0)).1 ∧ M 16 7 i = (rs.getD i (0, 0)).2
theorem RSn.one {M : Mem} {a b : Int32} : RSn (up3 (up3 (up3 M 16 5 0 a) 16 7 0 b) 16 0 2 1) [(a, b)] := by
  refine ⟨by rw [up3_same]; rfl, by simp, fun i hi => ?_⟩
  have : i = 0 := by simpa using hi
  subst this
  exact ⟨by simp [up3], by simp [up3]⟩
theorem RSn.ahead {M M1 : Mem} {rs : List (Int32 × Int32)} {a b : Int32} (h : RSn M rs) (h0 : M1 16 5 0 = a ∧ M1 16 7 0 = b) (h1 : M1 16 5 1 = M 16 5 0 ∧ M1 16 7 1 = M 16 7 0) (h2 : M1 16 5 2 = M 16 5 1 ∧ M1 16 7 2 = M 16 7 1) (hc : M1 16 0 2 = nI (min (rs.length + 1) 3)) : RSn M1 (((a, b) :: rs).take 3) := by
  have hl : (((a, b) :: rs).take 3).length = min (rs.length + 1) 3 := by simp; omega
  refine ⟨by rw [hl]; exact hc, by rw [hl]; omega, fun i hi => ?_⟩
  rw [hl] at hi
  have e : ((((a, b) :: rs).take 3).getD i (0, 0)) = ((a, b) :: rs).getD i (0, 0) := by
    simp only [List.getD]
    rw [List.getElem?_take_of_lt (by omega)]
  rw [e]
  match i, hi with
  | 0, _ => exact h0
  | 1, hi =>
    have := h.2.2 0 (by omega)
    rw [h1.1, h1.2]
    exact this
  | 2, hi =>
    have := h.2.2 1 (by omega)
    rw [h2.1, h2.2]
    exact this
  | i + 3, hi => omega
/-- the orders' rows, their number and the place in the text -/
def OS (M : Mem) (k p : Nat) (R : Nat → Nat → Int32) : Prop := M 13 0 5 = nI k ∧ M 13 0 6 = nI p ∧ ∀ j i, j < 4 → i < 30 → M 13 (5 + 2 * j) i = R j i
theorem OS.at {M : Mem} {k p : Nat} {R : Nat → Nat → Int32} {r i : Nat} (j : Nat) (h : OS M k p R) (hr : r = 5 + 2 * j) (hj : j < 4) (hi : i < 30) : M 13 r i = R j i := by subst hr; exact h.2.2 j i hj hi
theorem OS.put {M : Mem} {k p : Nat} {R : Nat → Nat → Int32} {r i : Nat} {v : Int32} (j : Nat) (h : OS M k p R) (hr : r = 5 + 2 * j) (hj : j < 4) (hi : i < 30) : OS (up3 M 13 r i v) k p (gu R j i v) := by
  subst hr
  refine ⟨by rw [up3_ne (by omega)]; exact h.1, by rw [up3_ne (by omega)]; exact h.2.1, fun j' i' hj' hi' => ?_⟩
  unfold up3 gu
  by_cases e : j' = j ∧ i' = i
  · rw [if_pos ⟨rfl, by omega, e.2⟩, if_pos e]
  · rw [if_neg (fun q => e ⟨by omega, q.2.2⟩), if_neg e]
    exact h.2.2 j' i' hj' hi'
theorem OS.place {M : Mem} {k p p' : Nat} {R : Nat → Nat → Int32} {v : Int32} (h : OS M k p R) (hv : v = nI p') : OS (up3 M 13 0 6 v) k p' R := by
  subst hv
  exact ⟨by rw [up3_ne (by omega)]; exact h.1, up3_same, fun j i hj hi => by rw [up3_ne (by omega)]; exact h.2.2 j i hj hi⟩
theorem OS.count {M : Mem} {k k' p : Nat} {R : Nat → Nat → Int32} {v : Int32} (h : OS M k p R) (hv : v = nI k') : OS (up3 M 13 0 5 v) k' p R := by
  subst hv
  exact ⟨up3_same, by rw [up3_ne (by omega)]; exact h.2.1, fun j i hj hi => by rw [up3_ne (by omega)]; exact h.2.2 j i hj hi⟩
def isDig (c : Int32) : Bool := !decide (c < 48) && !decide (57 < c)
theorem TS.off {M M1 : Mem} {b b' : Nat} {t : List Int32} (h : TS M b t) (ho : Off b' M M1) (hb : b ≠ b') : TS M1 b t := by
  have e := ho b hb
  unfold TS at h ⊢
  rw [e]
  exact h
/-! orders as texts -/
def rDig (t : List Int32) (k p j : Nat) (R : Nat → Nat → Int32) : Nat → Nat → Int32 := if isDig (chr t p) then gu R j k (chr t p - 48) else R
abbrev Ord : Type := Int32 × Int32 × Int32 × Int32
def bN (b : Bool) : Nat := if b then 1 else 0
def isD (t : List Int32) (p : Nat) : Bool := isDig (chr t p)
def dV (t : List Int32) (p : Nat) : Int32 := chr t p - 48
/-- a digit at each of n places -/
def digsAt (t : List Int32) (p : Nat) : Nat → Bool × Nat
  | 0 => (true, p)
  | n + 1 => if isD t p then digsAt t (p + 1) n else (false, p)
/-- an order that begins at p: whether it is one, the place behind it or of the first fault, the order -/
def pOrd (t : List Int32) (p : Nat) : Bool × Nat × Ord :=
  let l := chr t p
  if l = 97 then (true, p + 1, (l, 0, 0, 0))
  else if l = 104 then (if isD t (p + 1) then (if isD t (p + 2) then (true, p + 3, (l, dV t (p + 1), dV t (p + 2), 0)) else (false, p + 2, (l, 0, 0, 0))) else (false, p + 1, (l, 0, 0, 0)))
  else if l = 109 then (if isD t (p + 1) then (if isD t (p + 2) then (if isD t (p + 3) then (true, p + 4, (l, dV t (p + 1), dV t (p + 2), dV t (p + 3))) else (false, p + 3, (l, 0, 0, 0))) else (false, p + 2, (l, 0, 0, 0))) else (false, p + 1, (l, 0, 0, 0)))
  else if l = 115 then (if isD t (p + 1) then (if chr t (p + 2) = 58 then (if isD t (p + 3) then (true, p + 4, (l, dV t (p + 1), dV t (p + 3), 0)) else (false, p + 3, (l, 0, 0, 0))) else (false, p + 2, (l, 0, 0, 0))) else (false, p + 1, (l, 0, 0, 0)))
  else if l = 98 then (if isD t (p + 1) then (if chr t (p + 2) = 61 then (if isD t (p + 3) then (if isD t (p + 4) then (true, p + 5, (l, dV t (p + 1), 10 * dV t (p + 3) + chr t (p + 4) - 48, 0)) else (true, p + 4, (l, dV t (p + 1), dV t (p + 3), 0))) else (false, p + 3, (l, 0, 0, 0))) else (false, p + 2, (l, 0, 0, 0))) else (false, p + 1, (l, 0, 0, 0)))
  else if l = 114 ∨ l = 99 ∨ l = 112 ∨ l = 117 ∨ l = 116 then (if isD t (p + 1) then (true, p + 2, (l, dV t (p + 1), 0, 0)) else (false, p + 1, (l, 0, 0, 0)))
  else (false, p, (l, 0, 0, 0))
/-- all orders from p on, n at most: the fault position or -1, and the orders -/
def pTxt (t : List Int32) : Nat → Nat → Int32 × List Ord
  | 0, p => (nI p, [])
  | n + 1, p =>
    if (pOrd t p).1 = false then (nI (pOrd t p).2.1, [])
    else if (pOrd t p).2.1 = t.length then (-1, [(pOrd t p).2.2])
    else if chr t (pOrd t p).2.1 = 59 then ((pTxt t n ((pOrd t p).2.1 + 1)).1, (pOrd t p).2.2 :: (pTxt t n ((pOrd t p).2.1 + 1)).2)
    else (nI (pOrd t p).2.1, [])
/-- the rows at i hold the order, as far as it is read -/
def rowIs (R : Nat → Nat → Int32) (i : Nat) (o : Ord) : Prop :=
  R 0 i = o.1 ∧ (o.1 ≠ 97 → R 1 i = o.2.1) ∧ (o.1 = 104 ∨ o.1 = 109 ∨ o.1 = 115 ∨ o.1 = 98 → R 2 i = o.2.2.1) ∧ (o.1 = 109 → R 3 i = o.2.2.2)
theorem gu_gu {g : LG} {j k : Nat} {v w : Int32} : gu (gu g j k v) j k w = gu g j k w := by
  funext j' k'
  simp only [gu]
  split <;> rfl
theorem gu_self {g : LG} {j k : Nat} {v : Int32} (h : g j k = v) : gu g j k v = g := by
  funext j' k'
  simp only [gu]
  split
  · rename_i q; rw [q.1, q.2, h]
  · rfl
theorem sw_in {x : Int32} (lo n : Nat) (hb : lo + n < 2 ^ 31) (h : ¬ (x.toInt < lo ∨ (lo : Int) + n < x.toInt)) : ∃ j, j ≤ n ∧ x = nI (lo + j) := by
  refine ⟨(x.toInt - lo).toNat, by omega, ?_⟩
  apply Int32.toInt_inj.mp
  rw [nI_toInt (by omega)]
  omega
theorem chr_lt {t : List Int32} {p : Nat} (h : ¬ chr t p = -1) : p < t.length := by
  unfold chr at h
  by_cases e : p < t.length
  · exact e
  · rw [if_neg e] at h; exact absurd rfl h
theorem isD_lt {t : List Int32} {p : Nat} (h : isD t p = true) : p < t.length := by
  refine chr_lt fun e => ?_
  unfold isD at h
  rw [e] at h
  exact absurd h (by decide)
theorem pO_f {t : List Int32} {p : Nat} {o : Ord} (n : Nat) (h : p + n ≤ t.length) : ((false, p + n, o) : Bool × Nat × Ord).2.1 ≤ t.length ∧ (((false, p + n, o) : Bool × Nat × Ord).1 = true → p < ((false, p + n, o) : Bool × Nat × Ord).2.1) := ⟨h, fun q => Bool.noConfusion q⟩
theorem pO_t {t : List Int32} {p : Nat} {o : Ord} (n : Nat) (h : p + (n + 1) ≤ t.length) : ((true, p + (n + 1), o) : Bool × Nat × Ord).2.1 ≤ t.length ∧ (((true, p + (n + 1), o) : Bool × Nat × Ord).1 = true → p < ((true, p + (n + 1), o) : Bool × Nat × Ord).2.1) := ⟨h, fun _ => show p < p + (n + 1) by omega⟩
theorem chr_is {t : List Int32} {p : Nat} {x : Int32} (h : chr t p = x) (hx : ¬ x = -1) : p < t.length := chr_lt (by rw [h]; exact hx)
theorem pOrd_le {t : List Int32} {p : Nat} (hp : p ≤ t.length) : (pOrd t p).2.1 ≤ t.length ∧ ((pOrd t p).1 = true → p < (pOrd t p).2.1) := by
  unfold pOrd
  simp only
  split
  next h => exact pO_t 0 (by have := chr_is h (by decide); omega)
  next =>
  split
  next h =>
    split
    next q1 =>
      split
      next q2 =>
        exact pO_t 2 (by have := isD_lt q2; omega)
      next => exact pO_f 2 (by have := isD_lt q1; omega)
    next => exact pO_f 1 (by have := chr_is h (by decide); omega)
  next =>
  split
  next h =>
    split
    next q1 =>
      split
      next q2 =>
        split
        next q3 =>
          exact pO_t 3 (by have := isD_lt q3; omega)
        next => exact pO_f 3 (by have := isD_lt q2; omega)
      next => exact pO_f 2 (by have := isD_lt q1; omega)
    next => exact pO_f 1 (by have := chr_is h (by decide); omega)
  next =>
  split
  next h =>
    split
    next q1 =>
      split
      next q2 =>
        split
        next q3 =>
          exact pO_t 3 (by have := isD_lt q3; omega)
        next => exact pO_f 3 (by have := chr_is q2 (by decide); omega)
      next => exact pO_f 2 (by have := isD_lt q1; omega)
    next => exact pO_f 1 (by have := chr_is h (by decide); omega)
  next =>
  split
  next h =>
    split
    next q1 =>
      split
      next q2 =>
        split
        next q3 =>
          split
          next q4 => exact pO_t 4 (by have := isD_lt q4; omega)
          next => exact pO_t 3 (by have := isD_lt q3; omega)
        next => exact pO_f 3 (by have := chr_is q2 (by decide); omega)
      next => exact pO_f 2 (by have := isD_lt q1; omega)
    next => exact pO_f 1 (by have := chr_is h (by decide); omega)
  next =>
  split
  next h =>
    have h0 : p < t.length := by rcases h with q | q | q | q | q <;> exact chr_is q (by decide)
    split
    next q1 =>
      exact pO_t 1 (by have := isD_lt q1; omega)
    next => exact pO_f 1 (by have := h0; omega)
  next => exact pO_f 0 (by omega)
theorem pT_bad {t : List Int32} {i p : Nat} (hi : i < 30) (h : (pOrd t p).1 = false) : pTxt t (30 - i) p = (nI (pOrd t p).2.1, []) := by
  obtain ⟨n, hn⟩ : ∃ n, 30 - i = n + 1 := ⟨29 - i, by omega⟩
  rw [hn]
  simp [pTxt, h]
theorem pT_end {t : List Int32} {i p : Nat} (hi : i < 30) (h : (pOrd t p).1 = true) (h2 : (pOrd t p).2.1 = t.length) : pTxt t (30 - i) p = (-1, [(pOrd t p).2.2]) := by
  obtain ⟨n, hn⟩ : ∃ n, 30 - i = n + 1 := ⟨29 - i, by omega⟩
  rw [hn]
  simp [pTxt, h, h2]
theorem pT_sep {t : List Int32} {i p : Nat} (hi : i < 30) (h : (pOrd t p).1 = true) (h2 : ¬ (pOrd t p).2.1 = t.length) (h3 : ¬ chr t (pOrd t p).2.1 = 59) : pTxt t (30 - i) p = (nI (pOrd t p).2.1, []) := by
  obtain ⟨n, hn⟩ : ∃ n, 30 - i = n + 1 := ⟨29 - i, by omega⟩
  rw [hn]
  simp [pTxt, h, h2, h3]
theorem pT_go {t : List Int32} {i p : Nat} (hi : i < 30) (h : (pOrd t p).1 = true) (h2 : ¬ (pOrd t p).2.1 = t.length) (h3 : chr t (pOrd t p).2.1 = 59) : pTxt t (30 - i) p = ((pTxt t (30 - (i + 1)) ((pOrd t p).2.1 + 1)).1, (pOrd t p).2.2 :: (pTxt t (30 - (i + 1)) ((pOrd t p).2.1 + 1)).2) := by
  obtain ⟨n, hn⟩ : ∃ n, 30 - i = n + 1 := ⟨29 - i, by omega⟩
  rw [hn, show 30 - (i + 1) = n by omega]
  simp [pTxt, h, h2, h3]
theorem rowIs.to {R R' : Nat → Nat → Int32} {i : Nat} {o : Ord} (h : rowIs R i o) (e : ∀ j, j < 4 → R' j i = R j i) : rowIs R' i o := by
  unfold rowIs at h ⊢
  rw [e 0 (by decide), e 1 (by decide), e 2 (by decide), e 3 (by decide)]
  exact h
/-- at the head of the reading loop -/
def RdI (t : List Int32) (M : Mem) (i : Nat) (s : Mem × Nat × (Nat → Nat → Int32) × List Ord) : Prop :=
  OS s.1 i s.2.1 s.2.2.1 ∧ Off 13 M s.1 ∧ s.2.1 ≤ t.length ∧ s.2.2.2.length = i ∧ (pTxt t 30 0).1 = (pTxt t (30 - i) s.2.1).1 ∧ (pTxt t 30 0).2 = s.2.2.2 ++ (pTxt t (30 - i) s.2.1).2 ∧ ∀ i', i' < i → rowIs s.2.2.1 i' (s.2.2.2.getD i' (0, 0, 0, 0))
theorem RdI.go {t : List Int32} {M M1 M2 : Mem} {i p : Nat} {R R1 : Nat → Nat → Int32} {dn : List Ord} (h : RdI t M i (M1, p, R, dn)) (hi : i < 30) (hO : OS M2 (i + 1) ((pOrd t p).2.1 + 1) R1) (hF : Off 13 M M2) (hR : ∀ j i', i' ≠ i → R1 j i' = R j i') (c1 : (pOrd t p).1 = true) (c2 : ¬ (pOrd t p).2.1 = t.length) (c3 : chr t (pOrd t p).2.1 = 59) (hr : rowIs R1 i (pOrd t p).2.2) : RdI t M (i + 1) (M2, (pOrd t p).2.1 + 1, R1, dn ++ [(pOrd t p).2.2]) := by
  obtain ⟨h1, h2, h3, h4, h5, h6, h7⟩ := h
  have hg := pT_go hi c1 c2 c3
  refine ⟨hO, hF, ?_, by simp [h4], ?_, ?_, fun i' hi' => ?_⟩
  · have := chr_is c3 (by decide); exact this
  · rw [h5, hg]
  · rw [h6, hg]; simp
  · by_cases e : i' = i
    · subst e
      have : (dn ++ [(pOrd t p).2.2]).getD i' (0, 0, 0, 0) = (pOrd t p).2.2 := by simp [List.getD, ← h4]
      show rowIs R1 i' ((dn ++ [(pOrd t p).2.2]).getD i' (0, 0, 0, 0))
      rw [this]
      exact hr
    · have h8 : (dn ++ [(pOrd t p).2.2]).getD i' (0, 0, 0, 0) = dn.getD i' (0, 0, 0, 0) := by
        have h4' : dn.length = i := h4
        simp only [List.getD]
        rw [List.getElem?_append_left (by omega)]
      show rowIs R1 i' ((dn ++ [(pOrd t p).2.2]).getD i' (0, 0, 0, 0))
      rw [h8]
      exact (h7 i' (by omega)).to (fun j _ => hR j i' e)
def RdP (t : List Int32) (M : Mem) (v : Int32) (M1 : Mem) : Prop := v = (pTxt t 30 0).1 ∧ Off 13 M M1 ∧ (v = -1 → M1 13 0 5 = nI (pTxt t 30 0).2.length ∧ (pTxt t 30 0).2.length ≤ 30 ∧ ∀ i, i < (pTxt t 30 0).2.length → rowIs (fun j i => M1 13 (5 + 2 * j) i) i ((pTxt t 30 0).2.getD i (0, 0, 0, 0)))
theorem RdI.bad {t : List Int32} {M M1 M2 : Mem} {i p q : Nat} {R : Nat → Nat → Int32} {dn : List Ord} (h : RdI t M i (M1, p, R, dn)) (hF : Off 13 M M2) (hq : q < 2 ^ 31) (e : (pTxt t (30 - i) p).1 = nI q) : RdP t M (nI q) M2 := by
  obtain ⟨h1, h2, h3, h4, h5, h6, h7⟩ := h
  have h5' : (pTxt t 30 0).1 = (pTxt t (30 - i) p).1 := h5
  exact ⟨by rw [h5', e], hF, fun h => absurd h (nI_ne_m1 hq)⟩
theorem RdI.ends {t : List Int32} {M M1 M2 : Mem} {i p : Nat} {R R1 : Nat → Nat → Int32} {dn : List Ord} (h : RdI t M i (M1, p, R, dn)) (hi : i < 30) (hO : OS M2 (i + 1) (pOrd t p).2.1 R1) (hF : Off 13 M M2) (hR : ∀ j i', i' ≠ i → R1 j i' = R j i') (c1 : (pOrd t p).1 = true) (c2 : (pOrd t p).2.1 = t.length) (hr : rowIs R1 i (pOrd t p).2.2) : RdP t M (-1) M2 := by
  obtain ⟨h1, h2, h3, h4, h5, h6, h7⟩ := h
  have hg := pT_end hi c1 c2
  have h5' : (pTxt t 30 0).1 = (pTxt t (30 - i) p).1 := h5
  have h6' : (pTxt t 30 0).2 = dn ++ (pTxt t (30 - i) p).2 := h6
  have h4' : dn.length = i := h4
  have hl : (pTxt t 30 0).2.length = i + 1 := by rw [h6', hg]; simp [h4']
  refine ⟨by rw [h5', hg], hF, fun _ => ⟨by rw [hl]; exact hO.1, by omega, fun i' hi' => ?_⟩⟩
  rw [hl] at hi'
  rw [h6', hg]
  by_cases e : i' = i
  · subst e
    have : (dn ++ [(pOrd t p).2.2]).getD i' (0, 0, 0, 0) = (pOrd t p).2.2 := by simp [List.getD, ← h4']
    show rowIs _ i' ((dn ++ [(pOrd t p).2.2]).getD i' (0, 0, 0, 0))
    rw [this]
    exact hr.to (fun j hj => hO.2.2 j i' hj (by omega))
  · have h8 : (dn ++ [(pOrd t p).2.2]).getD i' (0, 0, 0, 0) = dn.getD i' (0, 0, 0, 0) := by
      simp only [List.getD]
      rw [List.getElem?_append_left (by omega)]
    show rowIs _ i' ((dn ++ [(pOrd t p).2.2]).getD i' (0, 0, 0, 0))
    rw [h8]
    refine (h7 i' (by omega)).to (fun j hj => ?_)
    show M2 13 (5 + 2 * j) i' = R j i'
    rw [hO.2.2 j i' hj (by omega), hR j i' e]
theorem RdI.init {t : List Int32} {M : Mem} : RdI t M 0 (up3 (up3 M 13 0 6 0) 13 0 5 0, 0, fun j i => M 13 (5 + 2 * j) i, []) := by
  refine ⟨⟨?_, ?_, fun j i _ _ => ?_⟩, (Off.rf _ _).up.up, Nat.zero_le _, rfl, rfl, rfl, fun i h => absurd h (Nat.not_lt_zero i)⟩
  · show up3 (up3 M 13 0 6 0) 13 0 5 0 13 0 5 = nI 0
    rw [up3_same]; rfl
  · show up3 (up3 M 13 0 6 0) 13 0 5 0 13 0 6 = nI 0
    rw [up3_ne (by omega), up3_same]; rfl
  · show up3 (up3 M 13 0 6 0) 13 0 5 0 13 (5 + 2 * j) i = M 13 (5 + 2 * j) i
    rw [up3_ne (by omega), up3_ne (by omega)]
