/-! the league as numbers: rows 0-6 of chairs (section, need, cushion, stand, tier, marks, sitter), rows 7-13 of musicians (section, skill, demand, coins, bid, chair, concerts), row 14: league, halls, spent, lost, concerts, seasons, sold, chairs, musicians -/
abbrev LG : Type := Nat → Nat → Int32
/-- as the class holds it -/
def gX (B : Nat → Nat → Int32) : LG := fun j k => if j < 14 then (if k < 10 then B (5 + 2 * j) k else 0) else if j = 14 then (if k < 7 then B 3 k else if k = 7 then B 1 0 else if k = 8 then B 2 0 else 0) else 0
/-- as the reference holds it: in one row -/
def gF (f : Nat → Int32) : LG := fun j k => if j < 7 then (if k < 10 then f (9 + 7 * k + j) else 0) else if j < 14 then (if k < 10 then f (79 + 7 * k + (j - 7)) else 0) else if j = 14 then (if k < 9 then f k else 0) else 0
def gu (g : LG) (j k : Nat) (v : Int32) : LG := fun j' k' => if j' = j ∧ k' = k then v else g j' k'
theorem gu_same {g : LG} {j k : Nat} {v : Int32} : gu g j k v j k = v := by simp [gu]
theorem gu_ne {g : LG} {j k j' k' : Nat} {v : Int32} (h : ¬ (j' = j ∧ k' = k)) : gu g j k v j' k' = g j' k' := if_neg h
theorem gX_row {B : Nat → Nat → Int32} {j k : Nat} (hj : j < 14) (hk : k < 10) : gX B j k = B (5 + 2 * j) k := by simp [gX, hj, hk]
theorem gX_bk {B : Nat → Nat → Int32} {k : Nat} (hk : k < 7) : gX B 14 k = B 3 k := by simp [gX, hk]
theorem gX_cc {B : Nat → Nat → Int32} : gX B 14 7 = B 1 0 := by simp [gX]
theorem gX_cm {B : Nat → Nat → Int32} : gX B 14 8 = B 2 0 := by simp [gX]
theorem gX_put {M : Mem} {b j k : Nat} {v : Int32} (hj : j < 14) (hk : k < 10) : gX (up3 M b (5 + 2 * j) k v b) = gu (gX (M b)) j k v := by
  funext j' k'
  simp only [gX, gF, gu, up3, upd, true_and]
  (repeat' split) <;> first | rfl | omega | contradiction | simp_all
theorem gX_pbk {M : Mem} {b k : Nat} {v : Int32} (hk : k < 7) : gX (up3 M b 3 k v b) = gu (gX (M b)) 14 k v := by
  funext j' k'
  simp only [gX, gF, gu, up3, upd, true_and]
  (repeat' split) <;> first | rfl | omega | contradiction | simp_all
theorem gX_pcc {M : Mem} {b : Nat} {v : Int32} : gX (up3 M b 1 0 v b) = gu (gX (M b)) 14 7 v := by
  funext j' k'
  simp only [gX, gF, gu, up3, upd, true_and]
  (repeat' split) <;> first | rfl | omega | contradiction | simp_all
theorem gX_pcm {M : Mem} {b : Nat} {v : Int32} : gX (up3 M b 2 0 v b) = gu (gX (M b)) 14 8 v := by
  funext j' k'
  simp only [gX, gF, gu, up3, upd, true_and]
  (repeat' split) <;> first | rfl | omega | contradiction | simp_all
theorem gF_ch {f : Nat → Int32} {j k : Nat} (hj : j < 7) (hk : k < 10) : gF f j k = f (9 + 7 * k + j) := by simp [gF, hj, hk]
theorem gF_mu {f : Nat → Int32} {j k : Nat} (hj : j < 7) (hk : k < 10) : gF f (7 + j) k = f (79 + 7 * k + j) := by
  unfold gF
  rw [if_neg (by omega), if_pos (by omega), if_pos hk]
  congr 1
  omega
theorem gF_bk {f : Nat → Int32} {k : Nat} (hk : k < 9) : gF f 14 k = f k := by simp [gF, hk]
theorem gF_pch {f : Nat → Int32} {j k : Nat} {v : Int32} (hj : j < 7) (hk : k < 10) : gF (upd f (9 + 7 * k + j) v) = gu (gF f) j k v := by
  funext j' k'
  simp only [gX, gF, gu, up3, upd, true_and]
  (repeat' split) <;> first | rfl | omega | contradiction | simp_all
theorem gF_pmu {f : Nat → Int32} {j k : Nat} {v : Int32} (hj : j < 7) (hk : k < 10) : gF (upd f (79 + 7 * k + j) v) = gu (gF f) (7 + j) k v := by
  funext j' k'
  simp only [gX, gF, gu, up3, upd, true_and]
  (repeat' split) <;> first | rfl | omega | contradiction | simp_all
theorem gF_pbk {f : Nat → Int32} {k : Nat} {v : Int32} (hk : k < 9) : gF (upd f k v) = gu (gF f) 14 k v := by
  funext j' k'
  simp only [gX, gF, gu, up3, upd, true_and]
  (repeat' split) <;> first | rfl | omega | contradiction | simp_all
/-! the document's words of one league -/
def zabs (x : Int32) : Int32 := if 0 ≤ x then x else 0 - x
def fit (g : LG) (c m : Nat) : Int32 := 9 - zabs (g 1 c - g 8 m) + (if g 0 c = g 7 m then 4 else 0)
def wants (g : LG) (c m : Nat) : Bool := decide (6 ≤ fit g c m)
def comf (g : LG) (c : Nat) : Int32 := g 2 c + 3 * g 4 c
def fell (g : LG) (c : Nat) : Bool := decide (g 3 c = 0)
def bears (g : LG) (m c : Nat) : Bool := !fell g c && decide (g 9 m ≤ comf g c)
/-- by a difference, then the lower number -/
def zmore (d : Int32) (a b : Nat) : Bool := decide (0 < d) || (decide (d = 0) && decide (a < b))
def rhad (g : LG) (c a b : Nat) : Bool := zmore (fit g c a - fit g c b) a b
def rsat (g : LG) (a b : Nat) : Bool := zmore (comf g a - comf g b) a b
def taken (g : LG) (c : Nat) : Bool := !decide (g 6 c = -1)
def sits (g : LG) (m : Nat) : Bool := !decide (g 12 m = -1)
/-- how many below n -/
def cntB (p : Nat → Bool) : Nat → Nat
  | 0 => 0
  | n + 1 => cntB p n + (if p n then 1 else 0)
def sumI (f : Nat → Int32) : Nat → Int32
  | 0 => 0
  | n + 1 => sumI f n + f n
theorem cntB_le (p : Nat → Bool) (n : Nat) : cntB p n ≤ n := by
  induction n with
  | zero => exact Nat.le_refl 0
  | succ n ih => unfold cntB; split <;> omega
/-- the class's league: the block of its own changed, nothing else -/
def S9 (M : Mem) (g : LG) (M' : Mem) : Prop := gX (M' 9) = g ∧ ∀ b, b ≠ 9 → M' b = M b
theorem S9.rf {M : Mem} {g : LG} (h : gX (M 9) = g) : S9 M g M := ⟨h, fun _ _ => rfl⟩
theorem up3_off {M : Mem} {b r k b' : Nat} {v : Int32} (h : b' ≠ b) : up3 M b r k v b' = M b' := by
  funext r' k'
  exact up3_ne (fun q => h q.1)
theorem S9.put {M M1 : Mem} {g : LG} {r k : Nat} {v : Int32} (j : Nat) (h : S9 M g M1) (hr : r = 5 + 2 * j) (hj : j < 14) (hk : k < 10) : S9 M (gu g j k v) (up3 M1 9 r k v) := by
  subst hr
  exact ⟨by rw [gX_put hj hk, h.1], fun b hb => by rw [up3_off hb, h.2 b hb]⟩
theorem S9.pbk {M M1 : Mem} {g : LG} {k : Nat} {v : Int32} (h : S9 M g M1) (hk : k < 7) : S9 M (gu g 14 k v) (up3 M1 9 3 k v) := ⟨by rw [gX_pbk hk, h.1], fun b hb => by rw [up3_off hb, h.2 b hb]⟩
theorem S9.pcc {M M1 : Mem} {g : LG} {v : Int32} (h : S9 M g M1) : S9 M (gu g 14 7 v) (up3 M1 9 1 0 v) := ⟨by rw [gX_pcc, h.1], fun b hb => by rw [up3_off hb, h.2 b hb]⟩
theorem S9.pcm {M M1 : Mem} {g : LG} {v : Int32} (h : S9 M g M1) : S9 M (gu g 14 8 v) (up3 M1 9 2 0 v) := ⟨by rw [gX_pcm, h.1], fun b hb => by rw [up3_off hb, h.2 b hb]⟩
theorem S9.row {M M1 : Mem} {g : LG} {r k : Nat} (j : Nat) (h : S9 M g M1) (hr : r = 5 + 2 * j) (hj : j < 14) (hk : k < 10) : M1 9 r k = g j k := by
  subst hr
  rw [← h.1, gX_row hj hk]
theorem S9.trans {M M1 M2 : Mem} {g g2 : LG} (h : S9 M g M1) (h2 : S9 M1 g2 M2) : S9 M g2 M2 := ⟨h2.1, fun b hb => (h2.2 b hb).trans (h.2 b hb)⟩
theorem z_gen {gg : ZG} {E : ZE} {M : Mem} {lv : List (Nat × Value)} {pc : Nat} {st : List Value} {P : Mem → Prop} (h : P M) (k : ∀ M1, P M1 → Z gg E M1 lv pc st) : Z gg E M lv pc st := k M h
theorem S9.cc {M M1 : Mem} {g : LG} (h : S9 M g M1) : M1 9 1 0 = g 14 7 := by rw [← h.1, gX_cc]
theorem S9.cm {M M1 : Mem} {g : LG} (h : S9 M g M1) : M1 9 2 0 = g 14 8 := by rw [← h.1, gX_cm]
theorem S9.bk {M M1 : Mem} {g : LG} {k : Nat} (h : S9 M g M1) (hk : k < 7) : M1 9 3 k = g 14 k := by rw [← h.1, gX_bk hk]
/-- a number of the caller's that counts something -/
def inR (x : Int32) (n : Nat) : Bool := !decide (x < 0) && !decide (nI n ≤ x)
theorem inR_of {x : Int32} {n : Nat} (h : inR x n = true) (hn : n < 2 ^ 31) : ∃ k, k < n ∧ x = nI k := by
  unfold inR at h
  simp only [Bool.and_eq_true, Bool.not_eq_true', decide_eq_false_iff_not] at h
  rcases pk_ix x hn with h1 | h1 | h1
  · exact absurd h1 h.1
  · exact absurd h1 h.2
  · exact h1
theorem inR_nI {k n : Nat} (h : k < n) (hn : n < 2 ^ 31) : inR (nI k) n = true := by
  unfold inR
  have h1 : ¬ nI k < 0 := nI_pos (by omega)
  have h2 : ¬ nI n ≤ nI k := nI_ge h hn
  simp [h1, h2]
theorem nI_inj {a b : Nat} (ha : a < 2 ^ 31) (hb : b < 2 ^ 31) (h : nI a = nI b) : a = b := (nI_eq ha hb).mp h
theorem nI_ne_m1 {a : Nat} (ha : a < 2 ^ 31) : ¬ nI a = -1 := by
  intro h
  have := nI_pos ha
  rw [h] at this
  exact this (by decide)
/-- who bids the most of the first n but one -/
def highB (g : LG) (but : Int32) : Nat → Int32 × Int32
  | 0 => (-1, 0)
  | n + 1 => if nI n ≠ but ∧ ¬ g 11 n ≤ (highB g but n).2 then (nI n, g 11 n) else highB g but n
def noBids (g : LG) : Nat → LG
  | 0 => g
  | n + 1 => gu (noBids g n) 11 n 0
theorem noBids_off {g : LG} {n j k : Nat} (h : j ≠ 11) : noBids g n j k = g j k := by
  induction n with
  | zero => rfl
  | succ n ih => unfold noBids; rw [gu_ne (fun q => h q.1), ih]
def mAhead (g : LG) (a b : Nat) : Bool := if g 10 a - g 10 b = 0 then (if sits g a = sits g b then decide (a < b) else sits g a) else decide (0 < g 10 a - g 10 b)
def cAhead (g : LG) (a b : Nat) : Bool := decide (0 < g 5 a - g 5 b) || (decide (g 5 a - g 5 b = 0) && rsat g a b)
def bringC (g : LG) (c : Nat) (sec need : Int32) : LG := gu (gu (gu (gu (gu (gu (gu (gu g 0 c sec) 1 c need) 2 c 0) 3 c 3) 4 c 0) 5 c 0) 6 c (-1)) 14 7 (nI (c + 1))
def bringM (g : LG) (m : Nat) (sec skill dem : Int32) : LG := gu (gu (gu (gu (gu (gu (gu (gu g 7 m sec) 8 m skill) 9 m dem) 10 m 8) 11 m 0) 12 m (-1)) 13 m 0) 14 8 (nI (m + 1))
