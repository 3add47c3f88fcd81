/-! ===== who asks whom: answers that do not depend on the order of asking ===== -/
/-! ===== Int32 by its bits: bt x i ===== -/
def bt (x : Int32) (i : Nat) : Bool := x.toBitVec.getLsbD i
theorem b_ext {x y : Int32} (h : ∀ i, i < 32 → bt x i = bt y i) : x = y := Int32.toBitVec_inj.mp (BitVec.eq_of_getLsbD_eq (fun i hi => h i hi))
theorem b_or (x y : Int32) (i : Nat) : bt (x ||| y) i = (bt x i || bt y i) := by unfold bt; rw [Int32.toBitVec_or, BitVec.getLsbD_or]
theorem b_and (x y : Int32) (i : Nat) : bt (x &&& y) i = (bt x i && bt y i) := by unfold bt; rw [Int32.toBitVec_and, BitVec.getLsbD_and]
theorem b_xor (x y : Int32) (i : Nat) : bt (x ^^^ y) i = (bt x i ^^ bt y i) := by unfold bt; rw [Int32.toBitVec_xor, BitVec.getLsbD_xor]
theorem b_big {x : Int32} {i : Nat} (h : 32 ≤ i) : bt x i = false := BitVec.getLsbD_of_ge _ _ h
theorem b_255 (i : Nat) : bt 255 i = decide (i < 8) := by
  rcases Nat.lt_or_ge i 32 with h | h
  · exact (by decide +kernel : ∀ i, i < 32 → bt 255 i = decide (i < 8)) i h
  · rw [b_big h, decide_eq_false (by omega)]
theorem b_65535 (i : Nat) : bt 65535 i = decide (i < 16) := by
  rcases Nat.lt_or_ge i 32 with h | h
  · exact (by decide +kernel : ∀ i, i < 32 → bt 65535 i = decide (i < 16)) i h
  · rw [b_big h, decide_eq_false (by omega)]
theorem b_m1 : ∀ i, i < 32 → bt (-1) i = true := by decide +kernel
theorem b_0 (i : Nat) : bt 0 i = false := BitVec.getLsbD_zero
theorem s_l : ∀ n, n < 32 → ((nI n &&& 31).toBitVec.smod 32).toNat = n := by decide +kernel
theorem s_u : ∀ n, n < 32 → (((nI n).toUInt32 &&& Int32.toUInt32 31).toBitVec % 32).toNat = n := by decide +kernel
theorem b_shl (n : Nat) (hn : n < 32) (x : Int32) {i : Nat} (hi : i < 32) : bt (x <<< (nI n &&& 31)) i = (decide (n ≤ i) && bt x (i - n)) := by
  unfold bt
  rw [Int32.toBitVec_shiftLeft]
  show (x.toBitVec <<< ((nI n &&& 31).toBitVec.smod 32).toNat).getLsbD i = _
  rw [s_l n hn, BitVec.getLsbD_shiftLeft]
  rcases Nat.lt_or_ge i n with h | h
  · simp [h, Nat.not_le.mpr h]
  · simp [hi, h, Nat.not_lt.mpr h]
theorem b_ushr (n : Nat) (hn : n < 32) (x : Int32) (i : Nat) : bt ((x.toUInt32 >>> ((nI n).toUInt32 &&& Int32.toUInt32 31)).toInt32) i = bt x (n + i) := by
  show (x.toUInt32 >>> ((nI n).toUInt32 &&& Int32.toUInt32 31)).toBitVec.getLsbD i = x.toUInt32.toBitVec.getLsbD (n + i)
  rw [UInt32.toBitVec_shiftRight]
  show (x.toUInt32.toBitVec >>> (((nI n).toUInt32 &&& Int32.toUInt32 31).toBitVec % 32).toNat).getLsbD i = _
  rw [s_u n hn, BitVec.getLsbD_ushiftRight]
theorem b_sshr (n : Nat) (hn : n < 32) (x : Int32) {i : Nat} (hi : i < 32) : bt (x >>> (nI n &&& 31)) i = if n + i < 32 then bt x (n + i) else bt x 31 := by
  unfold bt
  rw [Int32.toBitVec_shiftRight]
  show (x.toBitVec.sshiftRight ((nI n &&& 31).toBitVec.smod 32).toNat).getLsbD i = _
  rw [s_l n hn, BitVec.getLsbD_sshiftRight, BitVec.msb_eq_getLsbD_last]
  simp [hi]
theorem b_shl8 (x : Int32) {i : Nat} (hi : i < 32) : bt (x <<< ((8 : Int32) &&& 31)) i = (decide (8 ≤ i) && bt x (i - 8)) := b_shl 8 (by omega) x hi
theorem b_shl16 (x : Int32) {i : Nat} (hi : i < 32) : bt (x <<< ((16 : Int32) &&& 31)) i = (decide (16 ≤ i) && bt x (i - 16)) := b_shl 16 (by omega) x hi
theorem b_shl24 (x : Int32) {i : Nat} (hi : i < 32) : bt (x <<< ((24 : Int32) &&& 31)) i = (decide (24 ≤ i) && bt x (i - 24)) := b_shl 24 (by omega) x hi
theorem b_sshr8 (x : Int32) {i : Nat} (hi : i < 32) : bt (x >>> ((8 : Int32) &&& 31)) i = if 8 + i < 32 then bt x (8 + i) else bt x 31 := b_sshr 8 (by omega) x hi
/-! a relation: the chair has asked the musician -/
abbrev Rl : Type := Nat → Nat → Bool
def dpf (v : Nat → Nat) (a b : Nat) : Prop := v b < v a ∨ (v a = v b ∧ a < b)
theorem dpf_as {v : Nat → Nat} {a b : Nat} (h : dpf v a b) (h2 : dpf v b a) : False := by unfold dpf at h h2; omega
theorem dpf_tr {v : Nat → Nat} {a b c : Nat} (h : dpf v a b) (h2 : dpf v b c) : dpf v a c := by unfold dpf at h h2 ⊢; omega
theorem dpf_tot {v : Nat → Nat} {a b : Nat} (h : a ≠ b) (h2 : ¬ dpf v a b) : dpf v b a := by unfold dpf at h2 ⊢; omega
theorem dpf_ir {v : Nat → Nat} {a : Nat} (h : dpf v a a) : False := dpf_as h h
def dhold (br : Rl) (cf : Nat → Nat) (A : Rl) (m c : Nat) : Prop := A c m = true ∧ br m c = true ∧ ∀ c', A c' m = true → br m c' = true → c' ≠ c → dpf cf c c'
def dseg (ft : Nat → Nat → Nat) (wt A : Rl) : Prop := (∀ c m, A c m = true → wt c m = true) ∧ ∀ c m m', A c m = true → wt c m' = true → dpf (ft c) m' m → A c m' = true
def dfin (wt br : Rl) (cf : Nat → Nat) (A : Rl) : Prop := ∀ c m, wt c m = true → A c m = true ∨ ∃ m', dhold br cf A m' c
def dun (ft : Nat → Nat → Nat) (wt br : Rl) (cf : Nat → Nat) (A : Rl) : Prop := dseg ft wt A ∧ ∀ A', dseg ft wt A' → dfin wt br cf A' → ∀ c m, A c m = true → A' c m = true
def dask (ft : Nat → Nat → Nat) (wt br : Rl) (cf : Nat → Nat) (A : Rl) (c m : Nat) : Prop := wt c m = true ∧ A c m = false ∧ (∀ m', wt c m' = true → A c m' = false → m' ≠ m → dpf (ft c) m m') ∧ ∀ m', ¬ dhold br cf A m' c
def dpl (br : Rl) (cf : Nat → Nat) (A : Rl) (m : Nat) (v : Int32) : Prop := (v = -1 ∧ ∀ c, A c m = true → br m c = false) ∨ ∃ c, v = nI c ∧ dhold br cf A m c
def dany (br : Rl) (cf : Nat → Nat) (A : Rl) (m : Nat) : Prop := (∀ c, A c m = true → br m c = false) ∨ ∃ c, dhold br cf A m c
theorem dpl.any {br : Rl} {cf : Nat → Nat} {A : Rl} {m : Nat} {v : Int32} (h : dpl br cf A m v) : dany br cf A m := by
  rcases h with h | ⟨c, -, h⟩
  · exact Or.inl h.2
  · exact Or.inr ⟨c, h⟩
theorem dhold_eq {br : Rl} {cf : Nat → Nat} {A : Rl} {m c c' : Nat} (h : dhold br cf A m c) (h2 : dhold br cf A m c') : c = c' := by
  refine Decidable.byContradiction fun e => ?_
  exact dpf_as (h.2.2 c' h2.1 h2.2.1 (Ne.symm e)) (h2.2.2 c h.1 h.2.1 e)
theorem dask_in {ft : Nat → Nat → Nat} {wt br : Rl} {cf : Nat → Nat} {A A' : Rl} {c m : Nat} (hA : dun ft wt br cf A) (hp : ∀ m, dany br cf A m) (hd : dask ft wt br cf A c m) (hs : dseg ft wt A') (hf : dfin wt br cf A') : A' c m = true := by
  obtain ⟨hw, hn, hb, hh⟩ := hd
  have hin := hA.2 A' hs hf
  rcases hf c m hw with h | ⟨m', h1, h2, h3⟩
  · exact h
  · cases q1 : A c m' with
    | true =>
      rcases hp m' with q | ⟨c1, q⟩
      · exact absurd h2 (by rw [q c q1]; decide)
      · by_cases e : c1 = c
        · subst e; exact absurd q (hh m')
        · exact absurd (dpf_as (h3 c1 (hin c1 m' q.1) q.2.1 e) (q.2.2 c q1 h2 (Ne.symm e))) id
    | false =>
      by_cases e : m' = m
      · subst e; exact h1
      · exact hs.2 c m' m h1 hw (hb m' (hs.1 c m' h1) q1 e)
theorem dun_grow {ft : Nat → Nat → Nat} {wt br : Rl} {cf : Nat → Nat} {A A1 : Rl} (hA : dun ft wt br cf A) (hp : ∀ m, dany br cf A m) (h1 : ∀ c m, A c m = true → A1 c m = true) (h2 : ∀ c m, A1 c m = true → A c m = true ∨ dask ft wt br cf A c m) : dun ft wt br cf A1 := by
  refine ⟨⟨fun c m h => ?_, fun c m m' h hw hp' => ?_⟩, fun A' hs hf c m h => ?_⟩
  · rcases h2 c m h with q | q
    · exact hA.1.1 c m q
    · exact q.1
  · rcases h2 c m h with q | q
    · exact h1 c m' (hA.1.2 c m m' q hw hp')
    · cases e : A c m' with
      | true => exact h1 c m' e
      | false =>
        by_cases em : m' = m
        · subst em; exact h
        · exact absurd (dpf_as hp' (q.2.2.1 m' hw e em)) id
  · rcases h2 c m h with q | q
    · exact hA.2 A' hs hf c m q
    · exact dask_in hA hp q hs hf
theorem dun_eq {ft : Nat → Nat → Nat} {wt br : Rl} {cf : Nat → Nat} {A1 A2 : Rl} (h1 : dun ft wt br cf A1) (f1 : dfin wt br cf A1) (h2 : dun ft wt br cf A2) (f2 : dfin wt br cf A2) : A1 = A2 := by
  funext c m
  cases e : A1 c m with
  | true => exact (h1.2 A2 h2.1 f2 c m e).symm
  | false =>
    cases e2 : A2 c m with
    | false => rfl
    | true => have := h2.2 A1 h1.1 f1 c m e2; rw [e] at this; exact this
theorem dun_nil {ft : Nat → Nat → Nat} {wt br : Rl} {cf : Nat → Nat} : dun ft wt br cf (fun _ _ => false) :=
  ⟨⟨fun _ _ h => Bool.noConfusion h, fun _ _ _ h => Bool.noConfusion h⟩, fun _ _ _ _ _ h => Bool.noConfusion h⟩
def dadd (A : Rl) (c m : Nat) : Rl := fun c' m' => A c' m' || (decide (c' = c) && decide (m' = m))
theorem dadd_t {A : Rl} {c m c' m' : Nat} : dadd A c m c' m' = true ↔ A c' m' = true ∨ (c' = c ∧ m' = m) := by simp [dadd]
theorem dpl_other {br : Rl} {cf : Nat → Nat} {A A1 : Rl} {m : Nat} {v : Int32} (h : dpl br cf A m v) (e : ∀ c, A1 c m = A c m) : dpl br cf A1 m v := by
  unfold dpl dhold at h ⊢
  simpa only [e] using h
/-- what a musician holds after more chairs have asked -/
theorem dpl_round {br : Rl} {cf : Nat → Nat} {A A1 : Rl} {m : Nat} {v v1 : Int32} {ask : Nat → Prop} (h : dpl br cf A m v) (hb : ∀ c, A c m = true → c < 10) (hA1 : ∀ c, A1 c m = true ↔ A c m = true ∨ ask c)
    (hv : (v1 = -1 ∧ v = -1 ∧ ∀ c, ask c → br m c = false) ∨ ∃ c1, c1 < 10 ∧ v1 = nI c1 ∧ (v = nI c1 ∨ (ask c1 ∧ br m c1 = true)) ∧ (∀ c, ask c → br m c = true → c ≠ c1 → dpf cf c1 c) ∧ (∀ c0, c0 < 10 → v = nI c0 → c0 ≠ c1 → dpf cf c1 c0)) : dpl br cf A1 m v1 := by
  rcases hv with ⟨e1, e2, hn⟩ | ⟨c1, hc1, e1, hfrom, hask, hold⟩
  · refine Or.inl ⟨e1, fun c hc => ?_⟩
    rcases (hA1 c).mp hc with q | q
    · rcases h with h | ⟨c0, h0, hh⟩
      · exact h.2 c q
      · exact absurd (h0.symm.trans e2) (nI_ne_m1 (by have := hb c0 hh.1; omega))
    · exact hn c q
  · refine Or.inr ⟨c1, e1, ?_, ?_, ?_⟩
    · rcases hfrom with q | q
      · rcases h with h | ⟨c0, h0, hh⟩
        · exact absurd (q.symm.trans h.1) (nI_ne_m1 (by omega))
        · have := hb c0 hh.1
          have e := nI_inj (by omega) (by omega) (h0.symm.trans q)
          subst e
          exact (hA1 _).mpr (Or.inl hh.1)
      · exact (hA1 c1).mpr (Or.inr q.1)
    · rcases hfrom with q | q
      · rcases h with h | ⟨c0, h0, hh⟩
        · exact absurd (q.symm.trans h.1) (nI_ne_m1 (by omega))
        · have := hb c0 hh.1
          have e := nI_inj (by omega) (by omega) (h0.symm.trans q)
          subst e
          exact hh.2.1
      · exact q.2
    · intro c hc hbr hne
      rcases (hA1 c).mp hc with q | q
      · rcases h with h | ⟨c0, h0, hh⟩
        · exact absurd hbr (by rw [h.2 c q]; decide)
        · have hc0 := hb c0 hh.1
          by_cases e : c0 = c
          · subst e
            exact hold c0 hc0 h0 hne
          · have h3 := hh.2.2 c q hbr (Ne.symm e)
            by_cases e2 : c0 = c1
            · subst e2; exact h3
            · exact dpf_tr (hold c0 hc0 h0 e2) h3
      · exact hask c q hbr hne
/-! how many pairs have asked -/
theorem cntB_mono {p q : Nat → Bool} {n : Nat} (h : ∀ k, p k = true → q k = true) : cntB p n ≤ cntB q n := by
  induction n with
  | zero => exact Nat.le_refl 0
  | succ n ih =>
    unfold cntB
    cases e : p n with
    | true => rw [h n e]; simp; omega
    | false => simp; omega
theorem cntB_lt {p q : Nat → Bool} {n j : Nat} (h : ∀ k, p k = true → q k = true) (hj : j < n) (h1 : p j = false) (h2 : q j = true) : cntB p n < cntB q n := by
  induction n with
  | zero => omega
  | succ n ih =>
    unfold cntB
    by_cases e : j = n
    · subst e
      have := cntB_mono (n := j) h
      simp [h1, h2]; omega
    · have := ih (by omega)
      cases e : p n with
      | true => rw [h n e]; simp; omega
      | false => simp; omega
theorem cntB_all {p : Nat → Bool} {n : Nat} (h : n ≤ cntB p n) : ∀ k, k < n → p k = true := by
  induction n with
  | zero => omega
  | succ n ih =>
    intro k hk
    have hl := cntB_le p n
    unfold cntB at h
    cases e : p n with
    | false => rw [e] at h; simp at h; omega
    | true =>
      rw [e] at h
      by_cases ek : k = n
      · rw [ek]; exact e
      · exact ih (by simp at h; omega) k (by omega)
def dcnt (A : Rl) : Nat := cntB (fun k => A (k / 10) (k % 10)) 100
theorem dcnt_lt {A A1 : Rl} {c m : Nat} (h : ∀ c m, A c m = true → A1 c m = true) (hc : c < 10) (hm : m < 10) (h1 : A c m = false) (h2 : A1 c m = true) : dcnt A < dcnt A1 := by
  refine cntB_lt (j := 10 * c + m) (fun k => h _ _) (by omega) ?_ ?_
  · rw [show (10 * c + m) / 10 = c by omega, show (10 * c + m) % 10 = m by omega]; exact h1
  · rw [show (10 * c + m) / 10 = c by omega, show (10 * c + m) % 10 = m by omega]; exact h2
theorem dcnt_all {A : Rl} (h : 100 ≤ dcnt A) {c m : Nat} (hc : c < 10) (hm : m < 10) : A c m = true := by
  have := cntB_all (p := fun k => A (k / 10) (k % 10)) h (10 * c + m) (by omega)
  simp only [show (10 * c + m) / 10 = c by omega, show (10 * c + m) % 10 = m by omega] at this
  exact this
/-! the two rows of one pairing -/
def dEF (nc nm : Nat) (p s : Nat → Int32) : Prop := (∀ m c, m < nm → c < nc → p m = nI c → s c = nI m) ∧ ∀ c, c < nc → s c = -1 ∨ ∃ m, m < nm ∧ s c = nI m ∧ p m = nI c
theorem dEF_mv {nc nm m c : Nat} {p s p' s' : Nat → Int32} (hn : nc ≤ 10) (hn2 : nm ≤ 10) (h : dEF nc nm p s) (hm : m < nm) (hc : c < nc) (hs : s c = -1) (ep : ∀ m', m' < nm → p' m' = if m' = m then nI c else p m') (es : ∀ c', c' < nc → s' c' = if c' = c then nI m else if p m = nI c' then -1 else s c') : dEF nc nm p' s' := by
  refine ⟨fun m1 c1 hm1 hc1 e => ?_, fun c1 hc1 => ?_⟩
  · rw [ep m1 hm1] at e
    rw [es c1 hc1]
    by_cases e1 : m1 = m
    · rw [if_pos e1] at e
      have := nI_inj (by omega) (by omega) e
      rw [if_pos this.symm, e1]
    · rw [if_neg e1] at e
      have h1 := h.1 m1 c1 hm1 hc1 e
      by_cases e2 : c1 = c
      · rw [e2, hs] at h1; exact absurd h1.symm (nI_ne_m1 (by omega))
      · rw [if_neg e2]
        by_cases e3 : p m = nI c1
        · have := h.1 m c1 hm hc1 e3
          rw [this] at h1
          exact absurd (nI_inj (by omega) (by omega) h1).symm e1
        · rw [if_neg e3]; exact h1
  · rw [es c1 hc1]
    by_cases e2 : c1 = c
    · rw [if_pos e2]
      exact Or.inr ⟨m, hm, rfl, by rw [ep m hm, if_pos rfl, e2]⟩
    · rw [if_neg e2]
      by_cases e3 : p m = nI c1
      · rw [if_pos e3]; exact Or.inl rfl
      · rw [if_neg e3]
        rcases h.2 c1 hc1 with q | ⟨m1, hm1, q1, q2⟩
        · exact Or.inl q
        · refine Or.inr ⟨m1, hm1, q1, ?_⟩
          rw [ep m1 hm1, if_neg (fun (e : m1 = m) => e3 (by rw [← e]; exact q2)), q2]
/-! the same with the class's numbers -/
def wtB (g : LG) (nc nm : Nat) : Rl := fun c m => decide (c < nc) && decide (m < nm) && wants g c m && !fell g c
def ftN (g : LG) (c m : Nat) : Nat := (fit g c m).toNatClampNeg
def cfN (g : LG) (c : Nat) : Nat := (comf g c).toNatClampNeg
def Fb (g : LG) (nc nm : Nat) : Prop := nc ≤ 10 ∧ nm ≤ 10 ∧ (∀ c m, c < nc → m < nm → ∃ k, 1 ≤ k ∧ k ≤ 13 ∧ fit g c m = nI k) ∧ ∀ c, c < nc → ∃ k, k ≤ 15 ∧ comf g c = nI k
theorem zsb1 : ∀ x, x < 16 → ∀ y, y < 16 → decide (0 < nI x - nI y) = decide (y < x) := by decide +kernel
theorem zsb2 : ∀ x, x < 16 → ∀ y, y < 16 → decide (nI x - nI y = 0) = decide (x = y) := by decide +kernel
theorem rsat_iff {g : LG} {nc nm a b : Nat} (h : Fb g nc nm) (ha : a < nc) (hb : b < nc) : rsat g a b = true ↔ dpf (cfN g) a b := by
  obtain ⟨x, hx, ex⟩ := h.2.2.2 a ha
  obtain ⟨y, hy, ey⟩ := h.2.2.2 b hb
  unfold rsat zmore dpf cfN
  rw [ex, ey, zsb1 x (by omega) y (by omega), zsb2 x (by omega) y (by omega), nI_clamp (by omega), nI_clamp (by omega)]
  simp
def lftB (x : Int32) (n : Nat) : Bool := decide ((x >>> (nI n &&& 31)) &&& 1 = 1)
theorem b_1 : ∀ i, i < 32 → bt 1 i = decide (i = 0) := by decide +kernel
theorem b_one {n i : Nat} (hn : n < 32) (hi : i < 32) : bt (1 <<< (nI n &&& 31)) i = decide (i = n) := by
  rw [b_shl n hn 1 hi, b_1 (i - n) (by omega)]
  by_cases e : i = n
  · subst e; simp
  · by_cases q : n ≤ i
    · simp [e, q]; omega
    · simp [e, q]
theorem lftB_bt {x : Int32} {n : Nat} (hn : n < 31) : lftB x n = bt x n := by
  unfold lftB
  have h0 : bt ((x >>> (nI n &&& 31)) &&& 1) 0 = bt x n := by
    rw [b_and, b_sshr n (by omega) x (by omega), if_pos (by omega), b_1 0 (by omega)]; simp
  by_cases e : (x >>> (nI n &&& 31)) &&& 1 = 1
  · rw [decide_eq_true e, ← h0, e]; decide
  · rw [decide_eq_false e]
    cases q : bt x n with
    | false => rfl
    | true =>
      refine absurd (b_ext fun i hi => ?_) e
      by_cases ei : i = 0
      · subst ei; rw [h0, q]; decide
      · rw [b_and, b_1 i hi, decide_eq_false ei, Bool.and_false]
def clrB (x v : Int32) : Int32 := x &&& ((1 <<< (v &&& 31)) ^^^ (-1))
theorem clr_bt {x : Int32} {n i : Nat} (hn : n < 32) (hi : i < 32) : bt (clrB x (nI n)) i = (bt x i && !decide (i = n)) := by
  unfold clrB
  rw [b_and, b_xor, b_one hn hi, b_m1 i hi]
  cases decide (i = n) <;> simp
def wset (g : LG) (c : Nat) : Nat → Int32
  | 0 => 0
  | n + 1 => if fit g c n < 6 then wset g c n else wset g c n ||| (1 <<< (nI n &&& 31))
theorem i32_nlt {a b : Int32} : ¬ a < b ↔ b ≤ a := by rw [Int32.lt_iff_toInt_lt, Int32.le_iff_toInt_le]; omega
theorem wset_bt {g : LG} {c n i : Nat} (hn : n ≤ 10) (hi : i < 32) : bt (wset g c n) i = (decide (i < n) && wants g c i) := by
  induction n with
  | zero => unfold wset; rw [b_0]; simp
  | succ n ih =>
    unfold wset
    have ih := ih (by omega)
    by_cases e : fit g c n < 6
    · rw [if_pos e, ih]
      by_cases ei : i = n
      · subst ei
        have : wants g c i = false := by unfold wants; exact decide_eq_false (fun q => i32_nlt.mpr q e)
        simp [this]
      · have e1 : decide (i < n) = decide (i < n + 1) := by by_cases q : i < n <;> simp [q] <;> omega
        rw [e1]
    · rw [if_neg e, b_or, ih, b_one (by omega) hi]
      by_cases ei : i = n
      · subst ei
        have : wants g c i = true := by unfold wants; exact decide_eq_true (i32_nlt.mp e)
        simp [this]
      · have e1 : decide (i < n) = decide (i < n + 1) := by by_cases q : i < n <;> simp [q] <;> omega
        rw [e1]; simp [ei]
/-- the best of those left -/
def bestL (g : LG) (x : Int32) (c : Nat) : Nat → Int32 × Int32
  | 0 => (-1, 0)
  | n + 1 => if lftB x n = true ∧ ¬ fit g c n ≤ (bestL g x c n).2 then (nI n, fit g c n) else bestL g x c n
theorem bestL_spec {g : LG} {nc nm c n : Nat} {x : Int32} (h : Fb g nc nm) (hc : c < nc) (hn : n ≤ nm) :
    (bestL g x c n = (-1, 0) ∧ ∀ m, m < n → lftB x m = false) ∨ ∃ m, m < n ∧ lftB x m = true ∧ bestL g x c n = (nI m, fit g c m) ∧ ∀ m', m' < n → lftB x m' = true → m' ≠ m → dpf (ftN g c) m m' := by
  induction n with
  | zero => exact Or.inl ⟨rfl, fun m hm => absurd hm (Nat.not_lt_zero m)⟩
  | succ n ih =>
    have hnm := h.2.1
    obtain ⟨k, hk1, hk, ek⟩ := h.2.2.1 c n hc (by omega)
    rcases ih (by omega) with ⟨q1, q2⟩ | ⟨m, hm, hl, q1, q2⟩
    · by_cases e : lftB x n = true
      · refine Or.inr ⟨n, by omega, e, ?_, fun m' hm' hl' hne => ?_⟩
        · unfold bestL
          have hh : ¬ fit g c n ≤ (0 : Int32) := by
            rw [ek, Int32.le_iff_toInt_le, nI_toInt (by omega)]
            show ¬ (k : Int) ≤ 0
            omega
          rw [q1, if_pos ⟨e, hh⟩]
        · rw [q2 m' (by omega)] at hl'; cases hl'
      · refine Or.inl ⟨?_, fun m hm => ?_⟩
        · unfold bestL; rw [if_neg (fun q => e q.1)]; exact q1
        · by_cases em : m = n
          · subst em; simpa using e
          · exact q2 m (by omega)
    · obtain ⟨k2, hk21, hk2, ek2⟩ := h.2.2.1 c m hc (by omega)
      have hcmp : ¬ fit g c n ≤ (bestL g x c n).2 ↔ k2 < k := by
        rw [q1]
        show ¬ fit g c n ≤ fit g c m ↔ _
        rw [ek, ek2, Int32.le_iff_toInt_le, nI_toInt (by omega), nI_toInt (by omega)]; omega
      have f1 : ftN g c n = k := by unfold ftN; rw [ek, nI_clamp (by omega)]
      have f2 : ftN g c m = k2 := by unfold ftN; rw [ek2, nI_clamp (by omega)]
      by_cases e : lftB x n = true ∧ ¬ fit g c n ≤ (bestL g x c n).2
      · refine Or.inr ⟨n, by omega, e.1, by (conv => lhs; unfold bestL); rw [if_pos e], fun m' hm' hl' hne => ?_⟩
        have hk3 := hcmp.mp e.2
        have h1 : dpf (ftN g c) n m := by unfold dpf; omega
        by_cases em : m' = m
        · subst em; exact h1
        · exact dpf_tr h1 (q2 m' (by omega) hl' em)
      · refine Or.inr ⟨m, by omega, hl, by (conv => lhs; unfold bestL); rw [if_neg e]; exact q1, fun m' hm' hl' hne => ?_⟩
        by_cases em : m' = n
        · subst em
          have : ¬ k2 < k := fun q => e ⟨hl', hcmp.mpr q⟩
          unfold dpf; omega
        · exact q2 m' (by omega) hl' hne
/-! the rows of those who ask: 0 left, 1 asked, 2 sitter, 3 place -/
def canAskB (a : LG) (c : Nat) : Bool := decide (a 2 c = -1) && !decide (a 0 c = 0)
def askV (g a : LG) (nm c : Nat) : Int32 := (bestL g (a 0 c) c nm).1
def askA (g a : LG) (nm c : Nat) : LG := gu a 0 c (clrB (a 0 c) (askV g a nm c))
def usA (a : LG) (x v : Int32) : LG := if x = -1 then a else gu a 2 x.toNatClampNeg v
def mvA (a : LG) (m c : Nat) : LG := gu (gu (usA a (a 3 m) (-1)) 2 c (nI m)) 3 m (nI c)
def TI (g : LG) (nc nm : Nat) (a : LG) (A : Rl) : Prop := dun (ftN g) (wtB g nc nm) (bears g) (cfN g) A ∧ (∀ m, m < nm → dpl (bears g) (cfN g) A m (a 3 m)) ∧ dEF nc nm (a 3) (a 2) ∧ ∀ c, c < nc → ∀ i, i < 32 → bt (a 0 c) i = (wtB g nc nm c i && !A c i)
theorem TI.un {g : LG} {nc nm : Nat} {a : LG} {A : Rl} (h : TI g nc nm a A) : dun (ftN g) (wtB g nc nm) (bears g) (cfN g) A := h.1
theorem TI.pl {g : LG} {nc nm : Nat} {a : LG} {A : Rl} (h : TI g nc nm a A) : ∀ m, m < nm → dpl (bears g) (cfN g) A m (a 3 m) := h.2.1
theorem TI.ef {g : LG} {nc nm : Nat} {a : LG} {A : Rl} (h : TI g nc nm a A) : dEF nc nm (a 3) (a 2) := h.2.2.1
theorem TI.lf {g : LG} {nc nm : Nat} {a : LG} {A : Rl} (h : TI g nc nm a A) : ∀ c, c < nc → ∀ i, i < 32 → bt (a 0 c) i = (wtB g nc nm c i && !A c i) := h.2.2.2
theorem wtB_lt {g : LG} {nc nm c m : Nat} (h : wtB g nc nm c m = true) : c < nc ∧ m < nm := by
  unfold wtB at h
  simp only [Bool.and_eq_true, decide_eq_true_eq] at h
  exact ⟨h.1.1.1, h.1.1.2⟩
theorem TI.lt {g : LG} {nc nm : Nat} {a : LG} {A : Rl} (h : TI g nc nm a A) {c m : Nat} (q : A c m = true) : c < nc ∧ m < nm := wtB_lt (h.un.1.1 c m q)
theorem TI.any {g : LG} {nc nm : Nat} {a : LG} {A : Rl} (h : TI g nc nm a A) (m : Nat) : dany (bears g) (cfN g) A m := by
  by_cases hm : m < nm
  · exact (h.pl m hm).any
  · exact Or.inl fun c q => absurd (h.lt q).2 hm
theorem TI.nor {g : LG} {nc nm : Nat} {a : LG} {A : Rl} (h : TI g nc nm a A) {m : Nat} (hm : m < nm) : nOr (a 3 m) nc := by
  rcases h.pl m hm with q | ⟨c, q, hh⟩
  · exact Or.inl q.1
  · exact Or.inr ⟨c, (h.lt hh.1).1, q⟩
theorem TI.held {g : LG} {nc nm : Nat} {a : LG} {A : Rl} (hn : nc ≤ 10) (h : TI g nc nm a A) {m c : Nat} (q : dhold (bears g) (cfN g) A m c) : a 3 m = nI c := by
  have hl := h.lt q.1
  rcases h.pl m hl.2 with ⟨-, q1⟩ | ⟨c1, q1, q2⟩
  · exact absurd q.2.1 (by rw [q1 c q.1]; decide)
  · rw [q1, dhold_eq q q2]
theorem TI.ask {g : LG} {nc nm : Nat} {a : LG} {A : Rl} {c : Nat} (hF : Fb g nc nm) (h : TI g nc nm a A) (hc : c < nc) (hk : canAskB a c = true) : ∃ m, m < nm ∧ askV g a nm c = nI m ∧ dask (ftN g) (wtB g nc nm) (bears g) (cfN g) A c m := by
  have hn := hF.1
  have hm10 := hF.2.1
  unfold canAskB at hk
  simp only [Bool.and_eq_true, decide_eq_true_eq, Bool.not_eq_true', decide_eq_false_iff_not] at hk
  have hl : ∀ i, i < nm → lftB (a 0 c) i = (wtB g nc nm c i && !A c i) := fun i hi => by rw [lftB_bt (by omega), h.lf c hc i (by omega)]
  rcases bestL_spec (x := a 0 c) hF hc (Nat.le_refl nm) with ⟨-, q2⟩ | ⟨m, hm, hl1, q1, q2⟩
  · refine absurd (b_ext fun i hi => ?_) hk.2
    rw [b_0, h.lf c hc i hi]
    by_cases e : i < nm
    · rw [← hl i e]; exact q2 i e
    · cases q : wtB g nc nm c i with
      | false => rfl
      | true => exact absurd (wtB_lt q).2 e
  · rw [hl m hm] at hl1
    simp only [Bool.and_eq_true, Bool.not_eq_true'] at hl1
    refine ⟨m, hm, by unfold askV; rw [q1], hl1.1, hl1.2, fun m' hw hA hne => ?_, fun m' hh => ?_⟩
    · have hm' := (wtB_lt hw).2
      exact q2 m' hm' (by rw [hl m' hm', hw, hA]; rfl) hne
    · have h1 := h.held hn hh
      have h2 := h.ef.1 m' c (h.lt hh.1).2 hc h1
      rw [hk.1] at h2
      have := (h.lt hh.1).2
      exact nI_ne_m1 (by omega) h2.symm
theorem TI.stops {g : LG} {nc nm : Nat} {a : LG} {A : Rl} (hF : Fb g nc nm) (h : TI g nc nm a A) (hk : ∀ c, c < nc → canAskB a c = false) : dfin (wtB g nc nm) (bears g) (cfN g) A := by
  intro c m hw
  have hl := wtB_lt hw
  have hn := hF.1
  have hm10 := hF.2.1
  cases e : A c m with
  | true => exact Or.inl rfl
  | false =>
    have h1 : bt (a 0 c) m = true := by rw [h.lf c hl.1 m (by omega), hw, e]; rfl
    have h0 : ¬ a 0 c = 0 := by intro q; rw [q, b_0] at h1; cases h1
    have h2 := hk c hl.1
    unfold canAskB at h2
    simp only [h0, decide_false, Bool.not_false, Bool.and_true, decide_eq_false_iff_not] at h2
    rcases h.ef.2 c hl.1 with q | ⟨m1, hm1, q1, q2⟩
    · exact absurd q h2
    · refine Or.inr ⟨m1, ?_⟩
      rcases h.pl m1 hm1 with ⟨q, -⟩ | ⟨c1, q3, q4⟩
      · rw [q2] at q; exact absurd q (nI_ne_m1 (by omega))
      · have := (h.lt q4.1).1
        have := nI_inj (by omega) (by omega) (q2.symm.trans q3)
        subst this
        exact q4
theorem TI.full {g : LG} {nc nm : Nat} {a : LG} {A : Rl} (hF : Fb g nc nm) (_h : TI g nc nm a A) (hd : 100 ≤ dcnt A) : dfin (wtB g nc nm) (bears g) (cfN g) A := by
  intro c m hw
  have hl := wtB_lt hw
  have hn := hF.1
  have hm10 := hF.2.1
  exact Or.inl (dcnt_all hd (by omega) (by omega))
/-- the outcome -/
def DAr (g : LG) (nc nm : Nat) (a : LG) : Prop := ∃ A, TI g nc nm a A ∧ dfin (wtB g nc nm) (bears g) (cfN g) A
theorem DAr.place {g : LG} {nc nm : Nat} {a b : LG} (hF : Fb g nc nm) (h : DAr g nc nm a) (h2 : DAr g nc nm b) {m : Nat} (hm : m < nm) : a 3 m = b 3 m := by
  obtain ⟨A, hA, fA⟩ := h
  obtain ⟨B, hB, fB⟩ := h2
  have hn := hF.1
  have e := dun_eq hA.un fA hB.un fB
  subst e
  rcases hA.pl m hm with ⟨q, q1⟩ | ⟨c1, q, q1⟩
  · rcases hB.pl m hm with ⟨r, -⟩ | ⟨c2, -, r1⟩
    · rw [q, r]
    · exact absurd r1.2.1 (by rw [q1 c2 r1.1]; decide)
  · rw [q, hB.held hn q1]
theorem DAr.sitter {g : LG} {nc nm : Nat} {a b : LG} (hF : Fb g nc nm) (h : DAr g nc nm a) (h2 : DAr g nc nm b) {c : Nat} (hc : c < nc) : a 2 c = b 2 c := by
  have hp := fun m hm => DAr.place hF h h2 (m := m) hm
  obtain ⟨A, hA, -⟩ := h
  obtain ⟨B, hB, -⟩ := h2
  rcases hA.ef.2 c hc with q | ⟨m, hm, q1, q2⟩
  · rcases hB.ef.2 c hc with r | ⟨m, hm, r1, r2⟩
    · rw [q, r]
    · rw [r1]; exact hA.ef.1 m c hm hc (by rw [hp m hm, r2])
  · rw [q1]; exact (hB.ef.1 m c hm hc (by rw [← hp m hm, q2])).symm
/-- the way on -/
def dhv (g : LG) (nc : Nat) (m : Nat) (v v1 : Int32) (ask : Nat → Prop) : Prop := (v1 = -1 ∧ v = -1 ∧ ∀ c, ask c → bears g m c = false) ∨ ∃ c1, c1 < nc ∧ v1 = nI c1 ∧ (v = nI c1 ∨ (ask c1 ∧ bears g m c1 = true)) ∧ (∀ c, ask c → bears g m c = true → c ≠ c1 → dpf (cfN g) c1 c) ∧ (∀ c0, c0 < nc → v = nI c0 → c0 ≠ c1 → dpf (cfN g) c1 c0)
theorem dhv_same {g : LG} {nc m : Nat} {v : Int32} {ask : Nat → Prop} (hn : nc ≤ 10) (h : nOr v nc) (hno : ∀ c, ask c → bears g m c = false) : dhv g nc m v v ask := by
  rcases h with h | ⟨k, hk, h⟩
  · exact Or.inl ⟨h, h, hno⟩
  · exact Or.inr ⟨k, hk, h, Or.inl h, fun c hc hb => absurd hb (by rw [hno c hc]; decide), fun c0 h0 e hne => absurd (nI_inj (by omega) (by omega) (e.symm.trans h)) hne⟩
theorem TI.round {g : LG} {nc nm : Nat} {a a1 : LG} {A A1 : Rl} {ask : Nat → Nat → Prop} (hF : Fb g nc nm) (h : TI g nc nm a A) (hA1 : ∀ c m, A1 c m = true ↔ A c m = true ∨ ask c m) (hask : ∀ c m, ask c m → dask (ftN g) (wtB g nc nm) (bears g) (cfN g) A c m)
    (hlf : ∀ c, c < nc → ∀ i, i < 32 → bt (a1 0 c) i = (wtB g nc nm c i && !A1 c i)) (hef : dEF nc nm (a1 3) (a1 2)) (hpl : ∀ m, m < nm → dhv g nc m (a 3 m) (a1 3 m) (fun c => ask c m)) : TI g nc nm a1 A1 := by
  have hn := hF.1
  refine ⟨dun_grow h.un h.any (fun c m q => (hA1 c m).mpr (Or.inl q)) (fun c m q => ((hA1 c m).mp q).imp id (hask c m)), fun m hm => ?_, hef, hlf⟩
  refine dpl_round (h.pl m hm) (fun c q => by have := (h.lt q).1; omega) (fun c => hA1 c m) ?_
  rcases hpl m hm with q | ⟨c1, h1, h2, h3, h4, h5⟩
  · exact Or.inl q
  · refine Or.inr ⟨c1, by omega, h2, h3, h4, fun c0 _ e hne => ?_⟩
    rcases h.nor hm with q | ⟨k, hk, q⟩
    · exact absurd (e.symm.trans q) (nI_ne_m1 (by omega))
    · have := nI_inj (by omega) (by omega) (e.symm.trans q)
      exact h5 c0 (by omega) e hne
theorem gu_r {a : LG} {j k j' k' : Nat} {v : Int32} : gu a j k v j' k' = if j' = j ∧ k' = k then v else a j' k' := rfl
theorem askA_0 {g a : LG} {nm c m c' : Nat} (hv : askV g a nm c = nI m) : askA g a nm c 0 c' = if c' = c then clrB (a 0 c) (nI m) else a 0 c' := by
  unfold askA; rw [gu_r, hv]
  by_cases e : c' = c <;> simp [e]
theorem askA_n {g a : LG} {nm c j k : Nat} (h : j ≠ 0) : askA g a nm c j k = a j k := gu_ne (fun q => h q.1)
theorem mvA_0 {a : LG} {m c c' : Nat} : mvA a m c 0 c' = a 0 c' := by
  unfold mvA usA
  rw [gu_ne (by omega), gu_ne (by omega)]
  split
  · rfl
  · rw [gu_ne (by omega)]
theorem mvA_1 {a : LG} {m c c' : Nat} : mvA a m c 1 c' = a 1 c' := by
  unfold mvA usA
  rw [gu_ne (by omega), gu_ne (by omega)]
  split
  · rfl
  · rw [gu_ne (by omega)]
theorem mvA_3 {a : LG} {m c m' : Nat} : mvA a m c 3 m' = if m' = m then nI c else a 3 m' := by
  unfold mvA usA
  rw [gu_r, gu_ne (by omega)]
  by_cases e : m' = m
  · simp [e]
  · simp only [e, and_false, if_false]
    split
    · rfl
    · rw [gu_ne (by omega)]
theorem mvA_2 {a : LG} {nc m c c' : Nat} (hn : nc ≤ 10) (hp : nOr (a 3 m) nc) (hc' : c' < nc) : mvA a m c 2 c' = if c' = c then nI m else if a 3 m = nI c' then -1 else a 2 c' := by
  unfold mvA usA
  rw [gu_ne (by omega), gu_r]
  by_cases e : c' = c
  · simp [e]
  · simp only [e, and_false, if_false]
    rcases hp with hp | ⟨k, hk, hp⟩
    · rw [hp, if_pos rfl, if_neg (fun q => nI_ne_m1 (show c' < 2 ^ 31 by omega) q.symm)]
    · rw [hp, if_neg (nI_ne_m1 (by omega)), nI_clamp (by omega), gu_r]
      by_cases e2 : c' = k
      · subst e2; simp
      · rw [if_neg (fun q => e2 q.2), if_neg (fun q => e2 (nI_inj (by omega) (by omega) q).symm)]
theorem turn_lf {g : LG} {nc nm c m : Nat} {a : LG} {A : Rl} (h : TI g nc nm a A) (hm : m < 32) (hc : c < nc) {x : Int32} (hx : x = clrB (a 0 c) (nI m)) {c' : Nat} (hc' : c' < nc) {i : Nat} (hi : i < 32) : bt (if c' = c then x else a 0 c') i = (wtB g nc nm c' i && !dadd A c m c' i) := by
  unfold dadd
  by_cases e : c' = c
  · subst e
    rw [if_pos rfl, hx, clr_bt hm hi, h.lf c' hc' i hi]
    cases wtB g nc nm c' i <;> cases A c' i <;> cases decide (i = m) <;> simp
  · rw [if_neg e, h.lf c' hc' i hi]; simp [e]
theorem TI.stay {g : LG} {nc nm c m : Nat} {a : LG} {A : Rl} (hF : Fb g nc nm) (h : TI g nc nm a A) (hc : c < nc) (hm : m < nm) (hv : askV g a nm c = nI m) (hd : dask (ftN g) (wtB g nc nm) (bears g) (cfN g) A c m) (hs : bears g m c = false ∨ ∃ c0, c0 < nc ∧ a 3 m = nI c0 ∧ rsat g c c0 = false) : TI g nc nm (askA g a nm c) (dadd A c m) := by
  have hn := hF.1
  have hm10 := hF.2.1
  have e3 : askA g a nm c 3 = a 3 := funext fun k => askA_n (by decide)
  have e2 : askA g a nm c 2 = a 2 := funext fun k => askA_n (by decide)
  refine TI.round (ask := fun c' m' => c' = c ∧ m' = m) hF h (fun c' m' => dadd_t) (fun c' m' q => by rw [q.1, q.2]; exact hd) (fun c' hc' i hi => ?_) (by rw [e3, e2]; exact h.ef) (fun m' hm' => ?_)
  · rw [askA_0 hv]; exact turn_lf h (by omega) hc rfl hc' hi
  · rw [e3]
    by_cases e : m' = m
    · subst e
      rcases hs with hs | ⟨c0, h0, h1, h2⟩
      · exact dhv_same hn (h.nor hm') (fun c' q => by rw [q.1]; exact hs)
      · refine Or.inr ⟨c0, h0, h1, Or.inl h1, fun c' q _ hne => ?_, fun c' h' e' hne => absurd (nI_inj (by omega) (by omega) (e'.symm.trans h1)) hne⟩
        rw [q.1] at hne ⊢
        exact dpf_tot hne (fun q => by rw [(rsat_iff hF hc h0).mpr q] at h2; cases h2)
    · exact dhv_same hn (h.nor hm') (fun c' q => absurd q.2 e)
theorem TI.move {g : LG} {nc nm c m : Nat} {a : LG} {A : Rl} (hF : Fb g nc nm) (h : TI g nc nm a A) (hc : c < nc) (hm : m < nm) (hk : canAskB a c = true) (hv : askV g a nm c = nI m) (hd : dask (ftN g) (wtB g nc nm) (bears g) (cfN g) A c m) (hb : bears g m c = true) (hs : a 3 m = -1 ∨ ∃ c0, c0 < nc ∧ a 3 m = nI c0 ∧ rsat g c c0 = true) : TI g nc nm (mvA (askA g a nm c) m c) (dadd A c m) := by
  have hn := hF.1
  have hm10 := hF.2.1
  have e3 : askA g a nm c 3 = a 3 := funext fun k => askA_n (by decide)
  have e2 : askA g a nm c 2 = a 2 := funext fun k => askA_n (by decide)
  have hs2 : a 2 c = -1 := by
    unfold canAskB at hk
    simp only [Bool.and_eq_true, decide_eq_true_eq] at hk
    exact hk.1
  refine TI.round (ask := fun c' m' => c' = c ∧ m' = m) hF h (fun c' m' => dadd_t) (fun c' m' q => by rw [q.1, q.2]; exact hd) (fun c' hc' i hi => ?_) ?_ (fun m' hm' => ?_)
  · rw [mvA_0, askA_0 hv]; exact turn_lf h (by omega) hc rfl hc' hi
  · refine dEF_mv hn hm10 h.ef hm hc hs2 (fun m' _ => ?_) (fun c' hc' => ?_)
    · rw [mvA_3, e3]
    · rw [mvA_2 hn (by rw [e3]; exact h.nor hm) hc', e3, e2]
  · rw [mvA_3, e3]
    by_cases e : m' = m
    · subst e
      rw [if_pos rfl]
      refine Or.inr ⟨c, hc, rfl, Or.inr ⟨⟨rfl, rfl⟩, hb⟩, fun c' q _ hne => absurd q.1 hne, fun c0 h0 e0 hne => ?_⟩
      rcases hs with hs | ⟨c1, h1, h2, h3⟩
      · exact absurd (e0.symm.trans hs) (nI_ne_m1 (by omega))
      · have := nI_inj (by omega) (by omega) (e0.symm.trans h2)
        subst this
        exact (rsat_iff hF hc h1).mp h3
    · rw [if_neg e]
      exact dhv_same hn (h.nor hm') (fun c' q => absurd q.2 e)
/-- all ask at once -/
def aoA (g : LG) (nm : Nat) (a : LG) : Nat → LG × Bool
  | 0 => (a, false)
  | n + 1 => if canAskB (aoA g nm a n).1 n = true then (gu (askA g (aoA g nm a n).1 nm n) 1 n (askV g (aoA g nm a n).1 nm n), true) else (gu (aoA g nm a n).1 1 n (-1), (aoA g nm a n).2)
theorem aoA_hi {g : LG} {nm : Nat} {a : LG} {n : Nat} : (∀ k, (aoA g nm a n).1 2 k = a 2 k) ∧ (∀ k, (aoA g nm a n).1 3 k = a 3 k) ∧ (∀ c, n ≤ c → (aoA g nm a n).1 0 c = a 0 c) := by
  induction n with
  | zero => exact ⟨fun _ => rfl, fun _ => rfl, fun _ _ => rfl⟩
  | succ n ih =>
    unfold aoA
    split
    · refine ⟨fun k => ?_, fun k => ?_, fun c hc => ?_⟩
      · show gu (askA g (aoA g nm a n).1 nm n) 1 n (askV g (aoA g nm a n).1 nm n) 2 k = _
        rw [gu_ne (by omega), askA_n (by decide), ih.1]
      · show gu (askA g (aoA g nm a n).1 nm n) 1 n (askV g (aoA g nm a n).1 nm n) 3 k = _
        rw [gu_ne (by omega), askA_n (by decide), ih.2.1]
      · show gu (askA g (aoA g nm a n).1 nm n) 1 n (askV g (aoA g nm a n).1 nm n) 0 c = _
        rw [gu_ne (by omega)]
        unfold askA
        rw [gu_ne (by omega), ih.2.2 c (by omega)]
    · refine ⟨fun k => ?_, fun k => ?_, fun c hc => ?_⟩
      · show gu (aoA g nm a n).1 1 n (-1) 2 k = _
        rw [gu_ne (by omega), ih.1]
      · show gu (aoA g nm a n).1 1 n (-1) 3 k = _
        rw [gu_ne (by omega), ih.2.1]
      · show gu (aoA g nm a n).1 1 n (-1) 0 c = _
        rw [gu_ne (by omega), ih.2.2 c (by omega)]
theorem aoA_can {g : LG} {nm : Nat} {a : LG} {n : Nat} : canAskB (aoA g nm a n).1 n = canAskB a n ∧ askV g (aoA g nm a n).1 nm n = askV g a nm n := by
  unfold canAskB askV
  rw [aoA_hi.1, aoA_hi.2.2 n (Nat.le_refl n)]
  exact ⟨rfl, rfl⟩
theorem aoA_spec {g : LG} {nm : Nat} {a : LG} {n : Nat} : ((aoA g nm a n).2 = true ↔ ∃ c, c < n ∧ canAskB a c = true) ∧ (∀ c, c < n → (aoA g nm a n).1 0 c = if canAskB a c = true then clrB (a 0 c) (askV g a nm c) else a 0 c) ∧ ∀ c, c < n → (aoA g nm a n).1 1 c = if canAskB a c = true then askV g a nm c else -1 := by
  induction n with
  | zero => exact ⟨⟨fun h => Bool.noConfusion h, fun ⟨c, hc, _⟩ => absurd hc (Nat.not_lt_zero c)⟩, fun c hc => absurd hc (Nat.not_lt_zero c), fun c hc => absurd hc (Nat.not_lt_zero c)⟩
  | succ n ih =>
    have hcan := aoA_can (g := g) (nm := nm) (a := a) (n := n)
    unfold aoA
    by_cases e : canAskB (aoA g nm a n).1 n = true
    · rw [if_pos e]
      have e' := e
      rw [hcan.1] at e'
      refine ⟨⟨fun _ => ⟨n, by omega, e'⟩, fun _ => rfl⟩, fun c hc => ?_, fun c hc => ?_⟩
      · show gu (askA g (aoA g nm a n).1 nm n) 1 n (askV g (aoA g nm a n).1 nm n) 0 c = _
        rw [gu_ne (by omega)]
        unfold askA
        rw [gu_r]
        by_cases ec : c = n
        · subst ec
          rw [if_pos ⟨rfl, rfl⟩, hcan.2, aoA_hi.2.2 c (Nat.le_refl c), if_pos e']
        · rw [if_neg (fun q => ec q.2)]; exact ih.2.1 c (by omega)
      · show gu (askA g (aoA g nm a n).1 nm n) 1 n (askV g (aoA g nm a n).1 nm n) 1 c = _
        rw [gu_r]
        by_cases ec : c = n
        · subst ec
          rw [if_pos ⟨rfl, rfl⟩, hcan.2, if_pos e']
        · rw [if_neg (fun q => ec q.2), askA_n (by decide)]; exact ih.2.2 c (by omega)
    · rw [if_neg e]
      have e' := e
      rw [hcan.1] at e'
      refine ⟨⟨fun q => ?_, fun q => ?_⟩, fun c hc => ?_, fun c hc => ?_⟩
      · obtain ⟨c, hc, q⟩ := ih.1.mp q
        exact ⟨c, by omega, q⟩
      · obtain ⟨c, hc, q⟩ := q
        by_cases ec : c = n
        · subst ec; exact absurd q e'
        · exact ih.1.mpr ⟨c, by omega, q⟩
      · show gu (aoA g nm a n).1 1 n (-1) 0 c = _
        rw [gu_ne (by omega)]
        by_cases ec : c = n
        · subst ec
          rw [aoA_hi.2.2 c (Nat.le_refl c), if_neg e']
        · exact ih.2.1 c (by omega)
      · show gu (aoA g nm a n).1 1 n (-1) 1 c = _
        rw [gu_r]
        by_cases ec : c = n
        · subst ec
          rw [if_pos ⟨rfl, rfl⟩, if_neg e']
        · rw [if_neg (fun q => ec q.2)]; exact ih.2.2 c (by omega)
/-- whom a musician chooses -/
def bestC (g a : LG) (m : Nat) : Nat → Int32
  | 0 => a 3 m
  | n + 1 => if a 1 n = nI m ∧ bears g m n = true ∧ (bestC g a m n = -1 ∨ rsat g n (bestC g a m n).toNatClampNeg = true) then nI n else bestC g a m n
theorem bestC_congr {g a b : LG} {m nc : Nat} (h1 : ∀ c, c < nc → a 1 c = b 1 c) (h3 : a 3 m = b 3 m) : bestC g a m nc = bestC g b m nc := by
  induction nc with
  | zero => exact h3
  | succ n ih =>
    unfold bestC
    rw [h1 n (by omega), ih (fun c hc => h1 c (by omega))]
theorem bestC_spec {g a : LG} {nc nm m n : Nat} (hF : Fb g nc nm) (hv : nOr (a 3 m) nc) (hn : n ≤ nc) : dhv g nc m (a 3 m) (bestC g a m n) (fun c => c < n ∧ a 1 c = nI m) := by
  have hnc := hF.1
  induction n with
  | zero => exact dhv_same hnc hv (fun c q => absurd q.1 (Nat.not_lt_zero c))
  | succ n ih =>
    have ih := ih (by omega)
    unfold bestC
    by_cases e : a 1 n = nI m ∧ bears g m n = true ∧ (bestC g a m n = -1 ∨ rsat g n (bestC g a m n).toNatClampNeg = true)
    · rw [if_pos e]
      refine Or.inr ⟨n, by omega, rfl, Or.inr ⟨⟨by omega, e.1⟩, e.2.1⟩, fun c q hb hne => ?_, fun c0 h0 e0 hne => ?_⟩
      · rcases ih with ⟨q1, q2, q3⟩ | ⟨c1, q1, q2, q3, q4, q5⟩
        · exact absurd hb (by rw [q3 c ⟨by omega, q.2⟩]; decide)
        · have hr : dpf (cfN g) n c1 := by
            rcases e.2.2 with r | r
            · rw [q2] at r; exact absurd r (nI_ne_m1 (by omega))
            · rw [q2, nI_clamp (by omega)] at r
              exact (rsat_iff hF (by omega) q1).mp r
          by_cases ec : c = c1
          · subst ec; exact hr
          · exact dpf_tr hr (q4 c ⟨by omega, q.2⟩ hb ec)
      · rcases ih with ⟨q1, q2, q3⟩ | ⟨c1, q1, q2, q3, q4, q5⟩
        · exact absurd (e0.symm.trans q2) (nI_ne_m1 (by omega))
        · have hr : dpf (cfN g) n c1 := by
            rcases e.2.2 with r | r
            · rw [q2] at r; exact absurd r (nI_ne_m1 (by omega))
            · rw [q2, nI_clamp (by omega)] at r
              exact (rsat_iff hF (by omega) q1).mp r
          by_cases ec : c0 = c1
          · subst ec; exact hr
          · exact dpf_tr hr (q5 c0 h0 e0 ec)
    · rw [if_neg e]
      rcases ih with ⟨q1, q2, q3⟩ | ⟨c1, q1, q2, q3, q4, q5⟩
      · refine Or.inl ⟨q1, q2, fun c q => ?_⟩
        by_cases ec : c = n
        · subst ec
          cases hb : bears g m c with
          | false => rfl
          | true => exact absurd ⟨q.2, hb, Or.inl q1⟩ e
        · exact q3 c ⟨by omega, q.2⟩
      · refine Or.inr ⟨c1, q1, q2, q3.imp id (fun q => ⟨⟨by omega, q.1.2⟩, q.2⟩), fun c q hb hne => ?_, q5⟩
        by_cases ec : c = n
        · subst ec
          refine dpf_tot hne (fun r => ?_)
          exact e ⟨q.2, hb, Or.inr (by rw [q2, nI_clamp (by omega)]; exact (rsat_iff hF (by omega) q1).mpr r)⟩
        · exact q4 c ⟨by omega, q.2⟩ hb hne
/-- a round, as far as the musicians below j have chosen; a0: when all have asked -/
def RJ (g : LG) (nc nm : Nat) (a0 : LG) (j : Nat) (a : LG) : Prop := (∀ c, c < nc → a 0 c = a0 0 c) ∧ (∀ c, c < nc → a 1 c = a0 1 c) ∧ (∀ m, m < nm → a 3 m = if m < j then bestC g a0 m nc else a0 3 m) ∧ (dEF nc nm (a 3) (a 2)) ∧ (∀ c m, c < nc → m < nm → j ≤ m → a0 1 c = nI m → a 2 c = -1) ∧ (∀ m, m < nm → nOr (a 3 m) nc)
theorem RJ.r0 {g : LG} {nc nm : Nat} {a0 a : LG} {j : Nat} (h : RJ g nc nm a0 j a) : ∀ c, c < nc → a 0 c = a0 0 c := h.1
theorem RJ.r1 {g : LG} {nc nm : Nat} {a0 a : LG} {j : Nat} (h : RJ g nc nm a0 j a) : ∀ c, c < nc → a 1 c = a0 1 c := h.2.1
theorem RJ.r3 {g : LG} {nc nm : Nat} {a0 a : LG} {j : Nat} (h : RJ g nc nm a0 j a) : ∀ m, m < nm → a 3 m = if m < j then bestC g a0 m nc else a0 3 m := h.2.2.1
theorem RJ.ef {g : LG} {nc nm : Nat} {a0 a : LG} {j : Nat} (h : RJ g nc nm a0 j a) : dEF nc nm (a 3) (a 2) := h.2.2.2.1
theorem RJ.fr {g : LG} {nc nm : Nat} {a0 a : LG} {j : Nat} (h : RJ g nc nm a0 j a) : ∀ c m, c < nc → m < nm → j ≤ m → a0 1 c = nI m → a 2 c = -1 := h.2.2.2.2.1
theorem RJ.nr {g : LG} {nc nm : Nat} {a0 a : LG} {j : Nat} (h : RJ g nc nm a0 j a) : ∀ m, m < nm → nOr (a 3 m) nc := h.2.2.2.2.2
theorem RJ.best {g : LG} {nc nm : Nat} {a0 a : LG} {j : Nat} (h : RJ g nc nm a0 j a) (hj : j < nm) : bestC g a j nc = bestC g a0 j nc := bestC_congr h.r1 (by rw [h.r3 j hj, if_neg (by omega)])
theorem bestC_nor {g a : LG} {nc nm m : Nat} (hF : Fb g nc nm) (hv : nOr (a 3 m) nc) : nOr (bestC g a m nc) nc := by
  rcases bestC_spec hF hv (Nat.le_refl nc) with q | ⟨c, hc, q, -⟩
  · exact Or.inl q.1
  · exact Or.inr ⟨c, hc, q⟩
theorem RJ.stay {g : LG} {nc nm : Nat} {a0 a : LG} {j : Nat} (h : RJ g nc nm a0 j a) (hj : j < nm) (e : bestC g a j nc = a 3 j) : RJ g nc nm a0 (j + 1) a := by
  refine ⟨h.r0, h.r1, fun m hm => ?_, h.ef, fun c m hc hm hjm => h.fr c m hc hm (by omega), h.nr⟩
  by_cases em : m = j
  · subst em; rw [if_pos (by omega), ← h.best hj, e]
  · rw [h.r3 m hm]
    by_cases q : m < j
    · rw [if_pos q, if_pos (by omega)]
    · rw [if_neg q, if_neg (by omega)]
theorem RJ.move {g : LG} {nc nm c : Nat} {a0 a : LG} {j : Nat} (hF : Fb g nc nm) (h : RJ g nc nm a0 j a) (hj : j < nm) (hc : c < nc) (e : bestC g a j nc = nI c) (hne : ¬ bestC g a j nc = a 3 j) : RJ g nc nm a0 (j + 1) (mvA a j c) := by
  have hn := hF.1
  have hm10 := hF.2.1
  have hask : a0 1 c = nI j := by
    rcases bestC_spec (a := a) hF (h.nr j hj) (Nat.le_refl nc) with q | ⟨c1, h1, q, q3, -⟩
    · rw [e] at q; exact absurd q.1 (nI_ne_m1 (by omega))
    · have := nI_inj (by omega) (by omega) (e.symm.trans q)
      subst this
      rcases q3 with q3 | q3
      · exact absurd (q.trans q3.symm) hne
      · rw [← h.r1 c hc]; exact q3.1.2
  have hfree := h.fr c j hc hj (Nat.le_refl j) hask
  refine ⟨fun c' hc' => by rw [mvA_0]; exact h.r0 c' hc', fun c' hc' => by rw [mvA_1]; exact h.r1 c' hc', fun m hm => ?_, ?_, fun c' m hc' hm hjm he => ?_, fun m hm => ?_⟩
  · rw [mvA_3]
    by_cases em : m = j
    · subst em; rw [if_pos rfl, if_pos (by omega), ← h.best hj, e]
    · rw [if_neg em, h.r3 m hm]
      by_cases q : m < j
      · rw [if_pos q, if_pos (by omega)]
      · rw [if_neg q, if_neg (by omega)]
  · exact dEF_mv hn hm10 h.ef hj hc hfree (fun m' _ => mvA_3) (fun c' hc' => mvA_2 hn (h.nr j hj) hc')
  · rw [mvA_2 hn (h.nr j hj) hc', if_neg (fun q => by rw [q, hask] at he; have := nI_inj (by omega) (by omega) he; omega)]
    split
    · rfl
    · exact h.fr c' m hc' hm (by omega) he
  · rw [mvA_3]
    split
    · exact Or.inr ⟨c, hc, rfl⟩
    · exact h.nr m hm
def rA1 (g : LG) (nc nm : Nat) (a : LG) (A : Rl) : Rl := fun c m => A c m || (decide (c < nc) && canAskB a c && decide (m < nm) && decide (askV g a nm c = nI m))
theorem rA1_t {g : LG} {nc nm : Nat} {a : LG} {A : Rl} {c m : Nat} : rA1 g nc nm a A c m = true ↔ A c m = true ∨ (c < nc ∧ canAskB a c = true ∧ m < nm ∧ askV g a nm c = nI m) := by simp [rA1, and_assoc]
theorem RJ.init {g : LG} {nc nm : Nat} {a : LG} {A : Rl} (hF : Fb g nc nm) (h : TI g nc nm a A) : RJ g nc nm (aoA g nm a nc).1 0 (aoA g nm a nc).1 := by
  have hn := hF.1
  have hm10 := hF.2.1
  have e2 : (aoA g nm a nc).1 2 = a 2 := funext fun k => aoA_hi.1 k
  have e3 : (aoA g nm a nc).1 3 = a 3 := funext fun k => aoA_hi.2.1 k
  refine ⟨fun _ _ => rfl, fun _ _ => rfl, fun m hm => by rw [if_neg (Nat.not_lt_zero m)], by rw [e2, e3]; exact h.ef, fun c m hc hm _ he => ?_, fun m hm => by rw [e3]; exact h.nor hm⟩
  rw [aoA_spec.2.2 c hc] at he
  by_cases q : canAskB a c = true
  · rw [e2]
    unfold canAskB at q
    simp only [Bool.and_eq_true, decide_eq_true_eq] at q
    exact q.1
  · rw [if_neg q] at he; exact absurd he.symm (nI_ne_m1 (by omega))
theorem RJ.done {g : LG} {nc nm : Nat} {a b : LG} {A : Rl} (hF : Fb g nc nm) (h : TI g nc nm a A) (hJ : RJ g nc nm (aoA g nm a nc).1 nm b) : TI g nc nm b (rA1 g nc nm a A) := by
  have hn := hF.1
  have hm10 := hF.2.1
  have e3 : (aoA g nm a nc).1 3 = a 3 := funext fun k => aoA_hi.2.1 k
  refine TI.round (ask := fun c m => c < nc ∧ canAskB a c = true ∧ m < nm ∧ askV g a nm c = nI m) hF h (fun c m => rA1_t) (fun c m q => ?_) (fun c hc i hi => ?_) hJ.ef (fun m hm => ?_)
  · obtain ⟨m1, h1, h2, h3⟩ := h.ask hF q.1 q.2.1
    have := nI_inj (by omega) (by omega) (h2.symm.trans q.2.2.2)
    subst this
    exact h3
  · rw [hJ.r0 c hc, aoA_spec.2.1 c hc]
    unfold rA1
    by_cases q : canAskB a c = true
    · obtain ⟨m1, h1, h2, h3⟩ := h.ask hF hc q
      rw [if_pos q, h2, clr_bt (by omega) hi, h.lf c hc i hi]
      have e1 : decide (nI m1 = nI i) = decide (i = m1) := by
        by_cases ei : i = m1
        · subst ei; simp
        · rw [decide_eq_false ei, decide_eq_false (fun z => ei (nI_inj (by omega) (by omega) z).symm)]
      rw [e1, q]
      cases hw : wtB g nc nm c i with
      | false => simp
      | true => simp [hc, (wtB_lt hw).2]
    · rw [if_neg q, h.lf c hc i hi]
      have : canAskB a c = false := by simpa using q
      simp [this]
  · have hs := bestC_spec (a := (aoA g nm a nc).1) (m := m) hF (by rw [e3]; exact h.nor hm) (Nat.le_refl nc)
    rw [hJ.r3 m hm, if_pos hm]
    rw [e3] at hs
    have key : ∀ c, (c < nc ∧ (aoA g nm a nc).1 1 c = nI m) ↔ (c < nc ∧ canAskB a c = true ∧ m < nm ∧ askV g a nm c = nI m) := by
      intro c
      refine ⟨fun q => ?_, fun q => ?_⟩
      · have q2 := q.2
        rw [aoA_spec.2.2 c q.1] at q2
        by_cases r : canAskB a c = true
        · rw [if_pos r] at q2; exact ⟨q.1, r, hm, q2⟩
        · rw [if_neg r] at q2; exact absurd q2.symm (nI_ne_m1 (by omega))
      · exact ⟨q.1, by rw [aoA_spec.2.2 c q.1, if_pos q.2.1]; exact q.2.2.2⟩
    have ek : (fun c => c < nc ∧ (aoA g nm a nc).1 1 c = nI m) = (fun c => c < nc ∧ canAskB a c = true ∧ m < nm ∧ askV g a nm c = nI m) := funext fun c => propext (key c)
    rw [ek] at hs
    exact hs
theorem rA1_lt {g : LG} {nc nm : Nat} {a : LG} {A : Rl} (hF : Fb g nc nm) (h : TI g nc nm a A) (hk : (aoA g nm a nc).2 = true) : dcnt A < dcnt (rA1 g nc nm a A) := by
  have hn := hF.1
  have hm10 := hF.2.1
  obtain ⟨c, hc, q⟩ := aoA_spec.1.mp hk
  obtain ⟨m, h1, h2, h3⟩ := h.ask hF hc q
  exact dcnt_lt (fun c m z => rA1_t.mpr (Or.inl z)) (show c < 10 by omega) (show m < 10 by omega) h3.2.1 (rA1_t.mpr (Or.inr ⟨hc, q, h1, h2⟩))
theorem dadd_lt {g : LG} {nc nm c m : Nat} {A : Rl} (hF : Fb g nc nm) (hc : c < nc) (hm : m < nm) (h : A c m = false) : dcnt A < dcnt (dadd A c m) := by
  have hn := hF.1
  have hm10 := hF.2.1
  exact dcnt_lt (fun c m z => dadd_t.mpr (Or.inl z)) (show c < 10 by omega) (show m < 10 by omega) h (dadd_t.mpr (Or.inr ⟨rfl, rfl⟩))
theorem aoA_no {g : LG} {nc nm : Nat} {a : LG} (hk : (aoA g nm a nc).2 = false) : ∀ c, c < nc → canAskB a c = false := by
  intro c hc
  cases q : canAskB a c with
  | false => rfl
  | true => rw [aoA_spec.1.mpr ⟨c, hc, q⟩] at hk; cases hk
/-- the beginning -/
def begA (g : LG) (nm : Nat) (a : LG) : Nat → LG
  | 0 => a
  | n + 1 => gu (gu (begA g nm a n) 0 n (if fell g n = true then 0 else wset g n nm)) 2 n (-1)
def plA (a : LG) : Nat → LG
  | 0 => a
  | n + 1 => gu (plA a n) 3 n (-1)
theorem begA_spec {g : LG} {nm : Nat} {a : LG} {n : Nat} : ∀ c, c < n → begA g nm a n 0 c = (if fell g c = true then 0 else wset g c nm) ∧ begA g nm a n 2 c = -1 := by
  induction n with
  | zero => intro c hc; omega
  | succ n ih =>
    intro c hc
    unfold begA
    by_cases e : c = n
    · subst e; simp [gu]
    · have := ih c (by omega)
      simp [gu, e, this]
theorem plA_spec {a : LG} {n : Nat} : (∀ m, m < n → plA a n 3 m = -1) ∧ ∀ j k, j ≠ 3 → plA a n j k = a j k := by
  induction n with
  | zero => exact ⟨fun m hm => absurd hm (Nat.not_lt_zero m), fun _ _ _ => rfl⟩
  | succ n ih =>
    unfold plA
    refine ⟨fun m hm => ?_, fun j k hj => ?_⟩
    · by_cases e : m = n
      · subst e; simp [gu]
      · simp [gu, e, ih.1 m (by omega)]
    · rw [gu_ne (fun q => hj q.1)]; exact ih.2 j k hj
theorem TI_init {g : LG} {nc nm : Nat} {a : LG} (hF : Fb g nc nm) : TI g nc nm (plA (begA g nm a nc) nm) (fun _ _ => false) := by
  have hn := hF.1
  have hm10 := hF.2.1
  refine ⟨dun_nil, fun m hm => Or.inl ⟨plA_spec.1 m hm, fun c q => Bool.noConfusion q⟩, ⟨fun m c hm hc e => ?_, fun c hc => Or.inl ?_⟩, fun c hc i hi => ?_⟩
  · rw [plA_spec.1 m hm] at e; exact absurd e.symm (nI_ne_m1 (by omega))
  · rw [plA_spec.2 2 c (by decide)]; exact (begA_spec c hc).2
  · rw [plA_spec.2 0 c (by decide), (begA_spec c hc).1]
    unfold wtB
    cases e : fell g c with
    | true => simp [b_0]
    | false => simp [wset_bt hm10 hi, hc]
/-! the memory of those who ask: block K -/
def SA (K : Nat) (M : Mem) (a : LG) (M' : Mem) : Prop := (∀ j k, j < 4 → k < 10 → M' K (5 + 2 * j) k = a j k) ∧ ∀ b, b ≠ K → M' b = M b
def aOf (M : Mem) (K : Nat) : LG := fun j k => M K (5 + 2 * j) k
theorem SA.rf {K : Nat} {M : Mem} : SA K M (aOf M K) M := ⟨fun _ _ _ _ => rfl, fun _ _ => rfl⟩
theorem SA.self {K : Nat} {M M1 : Mem} {a : LG} (h : SA K M a M1) : SA K M1 a M1 := ⟨h.1, fun _ _ => rfl⟩
theorem SA.trans {K : Nat} {M M1 M2 : Mem} {a b : LG} (h : SA K M a M1) (h2 : SA K M1 b M2) : SA K M b M2 := ⟨h2.1, fun b' hb => (h2.2 b' hb).trans (h.2 b' hb)⟩
theorem SA.g9 {K : Nat} {M M1 : Mem} {a g : LG} (h : SA K M a M1) (hK : K = 11 ∨ K = 12) (hg : gX (M 9) = g) : gX (M1 9) = g := by rw [h.2 9 (by omega)]; exact hg
theorem SA.row {K : Nat} {M M1 : Mem} {a : LG} {r k : Nat} (j : Nat) (h : SA K M a M1) (hr : r = 5 + 2 * j) (hj : j < 4) (hk : k < 10) : M1 K r k = a j k := by subst hr; exact h.1 j k hj hk
theorem SA.put {K : Nat} {M M1 : Mem} {a : LG} {r k : Nat} {v : Int32} (j : Nat) (h : SA K M a M1) (hr : r = 5 + 2 * j) (hj : j < 4) (hk : k < 10) : SA K M (gu a j k v) (up3 M1 K r k v) := by
  subst hr
  refine ⟨fun j' k' hj' hk' => ?_, fun b hb => by rw [up3_off hb, h.2 b hb]⟩
  unfold up3 gu
  by_cases e : j' = j ∧ k' = k
  · rw [if_pos ⟨rfl, by omega, e.2⟩, if_pos e]
  · rw [if_neg (fun q => e ⟨by omega, q.2.2⟩), if_neg e]
    exact h.1 j' k' hj' hk'
