/-! ===== orders, halls, texts ===== -/
/-- a map of the first n numbers into themselves that is one to one meets each -/
theorem pigeon {f : Nat → Nat} {n : Nat} (hf : ∀ k, k < n → f k < n) (hi : ∀ a b, a < n → b < n → f a = f b → a = b) {y : Nat} (hy : y < n) : ∃ k, k < n ∧ f k = y := by
  refine Classical.byContradiction fun hno => ?_
  have h1 : sumN (fun k => sumN (fun z => bN (decide (z = f k))) n) n = n := by
    rw [sumN_congr (h := fun _ => 1) (fun k hk => sumN_one (hf k hk))]
    clear hf hi hy hno
    induction n with
    | zero => rfl
    | succ n ih => unfold sumN; rw [ih]
  rw [sumN_swap] at h1
  have h2 : ∀ z, z < n → sumN (fun k => bN (decide (z = f k))) n ≤ 1 := fun z hz => by
    by_cases hk : ∃ k, k < n ∧ f k = z
    · obtain ⟨k, hk, e⟩ := hk
      rw [sumN_congr (h := fun j => bN (decide (j = k))) (fun j hj => by
        have : (z = f j) ↔ j = k := ⟨fun q => hi j k hj hk (by rw [e, q]), fun q => by rw [q, e]⟩
        rw [decide_eq_decide.mpr this]), sumN_one hk]
      exact Nat.le_refl 1
    · rw [sumN_congr (h := fun _ => 0) (fun j hj => by
        have : ¬ z = f j := fun q => hk ⟨j, hj, q.symm⟩
        simp [bN, this]), sumN_zero]
      exact Nat.zero_le 1
  have h3 : sumN (fun k => bN (decide (y = f k))) n = 0 := by
    rw [sumN_congr (h := fun _ => 0) (fun j hj => by
      have : ¬ y = f j := fun q => hno ⟨j, hj, q.symm⟩
      simp [bN, this]), sumN_zero]
  have h4 : ∀ m, (∀ z, z < m → sumN (fun k => bN (decide (z = f k))) n ≤ 1) → y < m → sumN (fun z => sumN (fun k => bN (decide (z = f k))) n) m < m := by
    intro m
    induction m with
    | zero => intro _ q; omega
    | succ m ih =>
      intro q1 q2
      show sumN (fun z => sumN (fun k => bN (decide (z = f k))) n) m + sumN (fun k => bN (decide (m = f k))) n < m + 1
      by_cases e : y = m
      · subst e
        rw [h3]
        have := sumN_le (f := fun z => sumN (fun k => bN (decide (z = f k))) n) (n := y) (fun z hz => q1 z (by omega))
        omega
      · have := ih (fun z hz => q1 z (by omega)) (by omega)
        have := q1 m (by omega)
        omega
  have := h4 n h2 hy
  omega
/-- a strict order of the first n, told by a Bool -/
def ordB (p : Nat → Nat → Bool) (n : Nat) : Prop := (∀ a, a < n → p a a = false) ∧ (∀ a b c, a < n → b < n → c < n → p a b = true → p b c = true → p a c = true) ∧ ∀ a b, a < n → b < n → a ≠ b → p a b = true ∨ p b a = true
def rnk (p : Nat → Nat → Bool) (n c : Nat) : Nat := cntB (fun o => p o c) n
theorem cntB_lt2 {p q : Nat → Bool} {n j : Nat} (h : ∀ k, k < n → p k = true → q k = true) (hj : j < n) (h1 : p j = false) (h2 : q j = true) : cntB p n < cntB q n := by
  induction n with
  | zero => omega
  | succ n ih =>
    unfold cntB
    have hm : ∀ m, (∀ k, k < m → p k = true → q k = true) → cntB p m ≤ cntB q m := fun m => by
      induction m with
      | zero => intro _; exact Nat.le_refl 0
      | succ m ihm =>
        intro hh
        have := ihm (fun k hk => hh k (by omega))
        have := hh m (by omega)
        unfold cntB
        cases e1 : p m <;> cases e2 : q m <;> simp_all <;> omega
    by_cases e : j = n
    · subst e
      have := hm j (fun k hk => h k (by omega))
      rw [h1, h2]
      simp only [Bool.false_eq_true, if_false, if_true]
      omega
    · have := ih (fun k hk => h k (by omega)) (by omega)
      have := h n (by omega)
      cases e1 : p n <;> cases e2 : q n <;> simp_all <;> omega
theorem rnk_lt {p : Nat → Nat → Bool} {n a b : Nat} (h : ordB p n) (ha : a < n) (hb : b < n) (hp : p a b = true) : rnk p n a < rnk p n b :=
  cntB_lt2 (j := a) (fun k hk q => h.2.1 k a b hk ha hb q hp) ha (h.1 a ha) hp
theorem rnk_n {p : Nat → Nat → Bool} {n a : Nat} (h : ordB p n) (ha : a < n) : rnk p n a < n := by
  have h1 : rnk p n a < cntB (fun _ => true) n := cntB_lt2 (j := a) (fun _ _ _ => rfl) ha (h.1 a ha) rfl
  have := cntB_le (fun _ => true) n
  omega
theorem rnk_inj {p : Nat → Nat → Bool} {n a b : Nat} (h : ordB p n) (ha : a < n) (hb : b < n) (e : rnk p n a = rnk p n b) : a = b := by
  refine Classical.byContradiction fun hne => ?_
  rcases h.2.2 a b ha hb hne with q | q
  · have := rnk_lt h ha hb q; omega
  · have := rnk_lt h hb ha q; omega
def plc (p : Nat → Nat → Bool) (n : Nat) (x : Int32) : Int32 := firstB (fun c => decide (nI (cntB (fun o => p o c) n) = x)) n
theorem plc_at {p : Nat → Nat → Bool} {n k : Nat} (h : ordB p n) (hn : n ≤ 10) (hk : k < n) : ∃ c, c < n ∧ plc p n (nI k) = nI c ∧ rnk p n c = k := by
  obtain ⟨c, hc, e⟩ := pigeon (f := rnk p n) (fun a ha => rnk_n h ha) (fun a b ha hb e => rnk_inj h ha hb e) hk
  refine ⟨c, hc, ?_, e⟩
  unfold plc
  refine firstB_at (fun c' hc' => ?_) ?_ ⟨hc, by omega⟩
  · have h1 := rnk_n h (show c' < n by omega)
    refine decide_eq_false fun q => ?_
    have q : rnk p n c' = k := nI_inj (by unfold rnk at *; omega) (by omega) q
    have := rnk_inj h (show c' < n by omega) hc (by omega)
    omega
  · exact decide_eq_true (by show nI (rnk p n c) = nI k; rw [e])
theorem plc_no {p : Nat → Nat → Bool} {n : Nat} {x : Int32} (h : ordB p n) (hn : n ≤ 10) (hx : x = -1 ∨ x = nI n) : plc p n x = -1011 := by
  unfold plc
  refine firstB_no (fun c hc => decide_eq_false fun q => ?_)
  have h1 : cntB (fun o => p o c) n < n := rnk_n h hc
  rcases hx with rfl | rfl
  · exact nI_ne_m1 (by omega) q
  · have := nI_inj (by omega) (by omega) q
    omega
theorem plc_next {p : Nat → Nat → Bool} {n k : Nat} (h : ordB p n) (hn : n ≤ 10) (hk : k + 1 < n) : ∃ a b, a < n ∧ b < n ∧ plc p n (nI k) = nI a ∧ plc p n (nI (k + 1)) = nI b ∧ p a b = true := by
  obtain ⟨a, ha, ea, ra⟩ := plc_at h hn (show k < n by omega)
  obtain ⟨b, hb, eb, rb⟩ := plc_at h hn hk
  refine ⟨a, b, ha, hb, ea, eb, ?_⟩
  have hne : a ≠ b := fun e => by subst e; omega
  rcases h.2.2 a b ha hb hne with q | q
  · exact q
  · have := rnk_lt h hb ha q; omega
/-- by a first number, then a second, then the lower -/
def lex3 (u v : Nat → Nat) (a b : Nat) : Bool := decide (u b < u a) || (decide (u a = u b) && (decide (v b < v a) || (decide (v a = v b) && decide (a < b))))
theorem lex3_ord (u v : Nat → Nat) (n : Nat) : ordB (lex3 u v) n := by
  unfold ordB lex3
  refine ⟨fun a _ => by simp, fun a b c _ _ _ h1 h2 => ?_, fun a b _ _ hne => ?_⟩
  · simp only [Bool.or_eq_true, Bool.and_eq_true, decide_eq_true_eq] at *
    omega
  · simp only [Bool.or_eq_true, Bool.and_eq_true, decide_eq_true_eq]
    omega
theorem ordB_congr {p q : Nat → Nat → Bool} {n : Nat} (e : ∀ a b, a < n → b < n → p a b = q a b) (h : ordB q n) : ordB p n :=
  ⟨fun a ha => by rw [e a a ha ha]; exact h.1 a ha, fun a b c ha hb hc h1 h2 => by
    rw [e a b ha hb] at h1
    rw [e b c hb hc] at h2
    rw [e a c ha hc]
    exact h.2.1 a b c ha hb hc h1 h2, fun a b ha hb hne => by
    rw [e a b ha hb, e b a hb ha]
    exact h.2.2 a b ha hb hne⟩
theorem sub_pos {x y : Nat} (hx : x < 2 ^ 30) (hy : y < 2 ^ 30) : decide (0 < nI x - nI y) = decide (y < x) ∧ decide (nI x - nI y = 0) = decide (x = y) := by
  have e : (nI x - nI y).toInt = (x : Int) - y := by
    rw [Int32.toInt_sub, nI_toInt (by omega), nI_toInt (by omega)]
    unfold Int.bmod
    dsimp only
    have h1 : ((2 ^ 32 : Nat) : Int) = 4294967296 := rfl
    rw [h1]
    split <;> omega
  refine ⟨decide_eq_decide.mpr ?_, decide_eq_decide.mpr ?_⟩
  · rw [Int32.lt_iff_toInt_lt, e, show (0 : Int32).toInt = 0 from rfl]; omega
  · rw [← Int32.toInt_inj, e, show (0 : Int32).toInt = 0 from rfl]; omega
theorem lex3_eq {u v : Nat → Nat} {a b x y z t : Nat} (h1 : u a = x) (h2 : u b = y) (h3 : v a = z) (h4 : v b = t) : lex3 u v a b = (decide (y < x) || (decide (x = y) && (decide (t < z) || (decide (z = t) && decide (a < b))))) := by
  subst h1 h2 h3 h4
  rfl
theorem cAhead_ord {g : LG} {nc nm n : Nat} (h : Inv g nc nm n) : ordB (cAhead g) nc := by
  have hl := h.le
  refine ordB_congr (q := lex3 (fun c => (g 5 c).toNatClampNeg) (cfN g)) (fun a b ha hb => ?_) (lex3_ord _ _ nc)
  obtain ⟨x, -, hx, ex⟩ := (h.ch a ha).2.2.2.2.2.1
  obtain ⟨y, -, hy, ey⟩ := (h.ch b hb).2.2.2.2.2.1
  obtain ⟨z, hz, ez⟩ := h.comfk ha
  obtain ⟨t, ht, et⟩ := h.comfk hb
  rw [lex3_eq (x := x) (y := y) (z := z) (t := t) (by show (g 5 a).toNatClampNeg = x; rw [ex, nI_clamp (by omega)]) (by show (g 5 b).toNatClampNeg = y; rw [ey, nI_clamp (by omega)]) (by show (comf g a).toNatClampNeg = z; rw [ez, nI_clamp (by omega)]) (by show (comf g b).toNatClampNeg = t; rw [et, nI_clamp (by omega)])]
  unfold cAhead rsat zmore
  rw [ex, ey, ez, et, (sub_pos (x := x) (y := y) (by omega) (by omega)).1, (sub_pos (x := x) (y := y) (by omega) (by omega)).2, (sub_pos (x := z) (y := t) (by omega) (by omega)).1, (sub_pos (x := z) (y := t) (by omega) (by omega)).2]
theorem mAhead_ord {g : LG} {nc nm n : Nat} (h : Inv g nc nm n) : ordB (mAhead g) nm := by
  refine ordB_congr (q := lex3 (fun m => (g 10 m).toNatClampNeg) (fun m => bN (sits g m))) (fun a b ha hb => ?_) (lex3_ord _ _ nm)
  obtain ⟨x, -, hx, ex⟩ := (h.mu a ha).2.2.2.1
  obtain ⟨y, -, hy, ey⟩ := (h.mu b hb).2.2.2.1
  have s := sub_pos (x := x) (y := y) (by omega) (by omega)
  rw [lex3_eq (u := fun m => (g 10 m).toNatClampNeg) (v := fun m => bN (sits g m)) (a := a) (b := b) (x := x) (y := y) (z := bN (sits g a)) (t := bN (sits g b)) (by show (g 10 a).toNatClampNeg = x; rw [ex, nI_clamp (by omega)]) (by show (g 10 b).toNatClampNeg = y; rw [ey, nI_clamp (by omega)]) rfl rfl]
  unfold mAhead
  rw [ex, ey]
  have e0 : (nI x - nI y = 0) ↔ x = y := decide_eq_decide.mp s.2
  rw [s.1]
  by_cases q : x = y
  · rw [if_pos (e0.mpr q)]
    subst q
    cases sits g a <;> cases sits g b <;> simp [bN]
  · rw [if_neg (fun z => q (e0.mp z))]
    simp [q]
/-! halls -/
theorem hall_bt {g : LG} {t : Int32} {n i : Nat} (hn : n ≤ 10) (hi : i < 32) : bt (hallN g t n) i = (decide (i < n) && decide (g 4 i = t)) := by
  induction n with
  | zero => rw [show hallN g t 0 = 0 from rfl, b_0]; simp
  | succ n ih =>
    unfold hallN
    split
    · next e =>
      rw [b_or, ih (by omega), b_one (by omega) hi]
      by_cases q : i = n
      · subst q; simp [e]
      · have : (i < n + 1) ↔ i < n := by omega
        simp [q, this]
    · next e =>
      rw [ih (by omega)]
      by_cases q : i = n
      · subst q; simp [e]
      · have : (i < n + 1) ↔ i < n := by omega
        simp [this]
theorem hall_in {g : LG} {nc nm n c : Nat} (h : Inv g nc nm n) (hc : c < nc) : (hallN g (g 4 c) nc >>> (nI c &&& 31)) &&& 1 = 1 := by
  have h10 := h.c10
  have e : lftB (hallN g (g 4 c) nc) c = true := by
    rw [lftB_bt (by omega), hall_bt h10 (by omega)]
    simp [hc]
  unfold lftB at e
  exact of_decide_eq_true e
theorem hall_apart {g : LG} {n : Nat} (hn : n ≤ 10) : hallN g 0 n &&& hallN g 1 n = 0 := by
  refine b_ext fun i hi => ?_
  rw [b_and, hall_bt hn hi, hall_bt hn hi, b_0]
  by_cases e : g 4 i = 0
  · rw [e]; simp
  · simp [e]
theorem ones_bt : ∀ n, n < 11 → ∀ i, i < 32 → bt ((1 <<< (nI n &&& 31)) - 1) i = decide (i < n) := by decide +kernel
theorem hall_all {g : LG} {nc nm n : Nat} (h : Inv g nc nm n) : hallN g 0 nc ||| hallN g 1 nc ||| hallN g 2 nc = (1 <<< (nI nc &&& 31)) - 1 := by
  have h10 := h.c10
  refine b_ext fun i hi => ?_
  rw [b_or, b_or, hall_bt h10 hi, hall_bt h10 hi, hall_bt h10 hi, ones_bt nc (by omega) i hi]
  by_cases e : i < nc
  · obtain ⟨k, -, hk, ek⟩ := (h.ch i e).2.2.2.2.1
    rcases (show k = 0 ∨ k = 1 ∨ k = 2 by omega) with rfl | rfl | rfl <;> rw [ek] <;> simp [e] <;> decide
  · simp [e]
/-! texts -/
theorem txt_ok : ∀ k, k < 30 → (pTxt (txt k) 30 0).1 = -1 ∧ (pTxt (txt k) 30 0).2.length ≤ 30 := by decide +kernel
theorem runL_is {g0 : LG} : ∀ (l : List Ord) (k : Nat) (g : LG) (rs : Rs) (n a b : Nat), Inv g0 a b n → SF g0 a b → (∃ c d, Inv g c d n ∧ SF g c d) → n + l.length ≤ 100000 → k + l.length ≤ 100 →
    ((runL g0 k g rs l).1 = -1014 ∧ (runL g0 k g rs l).2.1 = g0 ∧ ∃ j tl, j ≤ 100 ∧ (runL g0 k g rs l).2.2 = ((15, nI j) :: tl).take 3) ∨ ((runL g0 k g rs l).1 = nI (k + l.length) ∧ ∃ c d, Inv (runL g0 k g rs l).2.1 c d (n + l.length) ∧ SF (runL g0 k g rs l).2.1 c d)
  | [], k, g, rs, n, a, b, h0, f0, h, hn, hk => Or.inr ⟨rfl, h⟩
  | o :: os, k, g, rs, n, a, b, h0, f0, ⟨c, d, h, hf⟩, hn, hk => by
    have hl : (o :: os).length = os.length + 1 := rfl
    rw [hl] at hn hk ⊢
    obtain ⟨⟨c', d', h', hf'⟩, -⟩ := oOrder_kq (rs := rs) (o := o) h hf (by omega)
    unfold runL
    split
    · exact Or.inl ⟨rfl, rfl, k, _, by omega, rfl⟩
    · rw [show n + (os.length + 1) = n + 1 + os.length by omega, show k + (os.length + 1) = k + 1 + os.length by omega]
      exact runL_is os (k + 1) _ _ (n + 1) a b (h0.succ (by omega) (by omega)) f0 ⟨c', d', h', hf'⟩ (by omega) (by omega)
theorem oRun_is {g : LG} {rs : Rs} {k n a b : Nat} (h : Inv g a b n) (hf : SF g a b) (hk : k < 30) (hn : n + 31 ≤ 100000) :
    ((oRun g rs (txt k)).1 = -1014 ∧ (oRun g rs (txt k)).2.1 = g ∧ ∃ j tl, j ≤ 100 ∧ (oRun g rs (txt k)).2.2 = ((15, nI j) :: tl).take 3) ∨ (∃ j, j ≤ 100 ∧ (oRun g rs (txt k)).1 = nI j) ∧ ∃ c d, Inv (oRun g rs (txt k)).2.1 c d (n + 31) ∧ SF (oRun g rs (txt k)).2.1 c d := by
  obtain ⟨t1, t2⟩ := txt_ok k hk
  unfold oRun
  rw [if_pos t1]
  rcases runL_is (pTxt (txt k) 30 0).2 0 g rs n a b h hf ⟨a, b, h, hf⟩ (by omega) (by omega) with q | ⟨q1, c, d, q2, q3⟩
  · exact Or.inl q
  · exact Or.inr ⟨⟨_, by omega, q1⟩, c, d, q2.succ (by omega) (by omega), q3⟩
theorem oRun_nil {g : LG} {rs : Rs} : oRun g rs [] = (-2000, g, rs) := rfl
theorem aReason_0 {rs : Rs} {a b : Int32} {tl : Rs} {d : Int32} (e : rs = ((a, b) :: tl).take 3) : aReason rs 0 d = if d = 0 then a else b := by
  have hl : 0 < rs.length ∧ rs.length ≤ 3 := by subst e; simp; omega
  have hr : inR 0 rs.length = true := inR_nI (k := 0) hl.1 (by omega)
  unfold aReason
  rw [if_neg (by decide), hr, if_neg (by decide)]
  subst e
  rfl
