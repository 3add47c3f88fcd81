/-! ===== both sides hold the same league ===== -/
/-- the league, its past, the reasons, the text, the line, the snapshot -/
abbrev LSt : Type := LG × List LG × Rs × List Int32 × List Int32 × Option LG
def SvX (M : Mem) : Option LG → Prop
  | none => M 17 0 2 = 0
  | some h => M 17 0 2 = 1 ∧ gX (M 10) = h
def SvM (M : Mem) : Option LG → Prop
  | none => M 32 0 10 = 0
  | some h => M 32 0 10 = 1 ∧ gF (M 21 0) = h
def XS (M : Mem) (S : LSt) : Prop := gX (M 9) = S.1 ∧ (∃ nx, HX0 M nx S.2.1) ∧ RSn M S.2.2.1 ∧ TS M 14 S.2.2.2.1 ∧ TS M 15 S.2.2.2.2.1 ∧ SvX M S.2.2.2.2.2
def MS (M : Mem) (S : LSt) : Prop := gF (M 20 0) = S.1 ∧ HM M S.2.1 ∧ RSm M S.2.2.1 ∧ TM M S.2.2.2.1 ∧ LM M S.2.2.2.2.1 ∧ SvM M S.2.2.2.2.2 ∧ M 32 0 11 = 0
def IV (S : LSt) (n : Nat) : Prop := (∃ a b, Inv S.1 a b n) ∧ (∀ h, h ∈ S.2.1 → ∃ a b, Inv h a b n) ∧ (∀ x, x ∈ S.2.2.2.1 → rng x 32 126) ∧ (∀ h, S.2.2.2.2.2 = some h → ∃ a b, Inv h a b n)
def F20 (M M1 : Mem) : Prop := ∀ b, 20 ≤ b → M1 b = M b
def F19 (M M1 : Mem) : Prop := ∀ b, b < 20 → M1 b = M b
theorem IV.up {S : LSt} {n n' : Nat} (h : IV S n) (hn : n ≤ n') (hn2 : n' ≤ 100000) : IV S n' := by
  obtain ⟨⟨a, b, h1⟩, h2, h3, h4⟩ := h
  exact ⟨⟨a, b, h1.succ hn hn2⟩, fun x hx => (h2 x hx).elim fun a q => q.elim fun b q => ⟨a, b, q.succ hn hn2⟩, h3, fun x hx => (h4 x hx).elim fun a q => q.elim fun b q => ⟨a, b, q.succ hn hn2⟩⟩
theorem TS.eqb {M M1 : Mem} {b : Nat} {t : List Int32} (h : TS M b t) (e : M1 b = M b) : TS M1 b t := by unfold TS at h ⊢; rw [e]; exact h
theorem SvX.eqb {M M1 : Mem} {sv : Option LG} (h : SvX M sv) (e : M1 10 = M 10) (e2 : M1 17 = M 17) : SvX M1 sv := by
  cases sv with
  | none => show M1 17 0 2 = 0; rw [e2]; exact h
  | some a => exact ⟨by rw [e2]; exact h.1, by rw [e]; exact h.2⟩
theorem SvM.fq {P : Nat → Nat → Nat → Prop} {M M1 : Mem} {sv : Option LG} (h : SvM M sv) (e : Fq P M M1) (d1 : ¬ P 32 0 10) (d2 : ∀ k, ¬ P 21 0 k) : SvM M1 sv := by
  cases sv with
  | none => show M1 32 0 10 = 0; rw [e 32 0 10 d1]; exact h
  | some a => exact ⟨by rw [e 32 0 10 d1]; exact h.1, by rw [e.row d2]; exact h.2⟩
theorem XS.mono {M M1 : Mem} {S : LSt} (h : XS M S) (e : F19 M M1) : XS M1 S := by
  obtain ⟨h1, ⟨nx, h2⟩, h3, h4, h5, h6⟩ := h
  exact ⟨by rw [e 9 (by decide)]; exact h1, ⟨nx, h2.like (fun b hb => e b (by omega))⟩, h3.like (e 16 (by decide)), h4.eqb (e 14 (by decide)), h5.eqb (e 15 (by decide)), h6.eqb (e 10 (by decide)) (e 17 (by decide))⟩
theorem XS.fw {M M1 : Mem} {S : LSt} (h : XS M S) (e : FW M M1) : XS M1 S ∧ F20 M M1 := by
  obtain ⟨h1, ⟨nx, h2⟩, h3, h4, h5, h6⟩ := h
  exact ⟨⟨by rw [e 9 (by decide) (by decide)]; exact h1, ⟨nx, h2.like (fun b hb => e b (by omega) (by omega))⟩, h3.like (e 16 (by decide) (by decide)), h4.eqb (e 14 (by decide) (by decide)), h5.eqb (e 15 (by decide) (by decide)), h6.eqb (e 10 (by decide) (by decide)) (e 17 (by decide) (by decide))⟩, fun b hb => e b (by omega) (by omega)⟩
theorem MS.fq {P : Nat → Nat → Nat → Prop} {M M1 : Mem} {S : LSt} (h : MS M S) (e : Fq P M M1) (hg : gF (M1 20 0) = S.1) (d : ∀ b r k, P b r k → b < 20 ∨ b = 20 ∨ b = 22 ∨ b = 23 ∨ (b = 32 ∧ r = 3)) : MS M1 S := by
  obtain ⟨h1, h2, h3, h4, h5, h6, h7⟩ := h
  refine ⟨hg, h2.fq e (fun b r k q p => ?_), h3.fq e (fun b r k q p => ?_), h4.fq e (fun b r k q p => ?_), h5.fq e (fun b r k q p => ?_), h6.fq e (fun p => ?_) (fun k p => ?_), by rw [e 32 0 11 (fun p => by have := d _ _ _ p; omega)]; exact h7⟩
  · have := d _ _ _ p; unfold tH at q; omega
  · have := d _ _ _ p; unfold tR at q; omega
  · have := d _ _ _ p; unfold tT at q; omega
  · have := d _ _ _ p; unfold tL at q; omega
  · have := d _ _ _ p; omega
  · have := d _ _ _ p; omega
theorem MS.mono {M M1 : Mem} {S : LSt} (h : MS M S) (e : F20 M M1) : MS M1 S :=
  h.fq (P := fun b _ _ => b < 20) (fun b r k q => by rw [e b (by omega)]) (by rw [e 20 (by decide)]; exact h.1) (fun b r k q => Or.inl q)
def nS (S : LSt) (o : Chg) : LSt := (o.2.1, hsN S.1 S.2.1 o.1, o.2.2, S.2.2.2)
theorem px_step {M M1 : Mem} {S : LSt} {o : Chg} {v : Int32} (h : XS M S) (hp : PX M S.1 S.2.1 o v M1) : v = o.1 ∧ XS M1 (nS S o) ∧ F20 M M1 := by
  obtain ⟨h1, ⟨nx, h2⟩, h3, h4, h5, h6⟩ := h
  obtain ⟨p1, p2, p3, p4, p5⟩ := hp
  subst p1
  exact ⟨rfl, ⟨p2, p4, p3, h4.eqb (p5 14 (by decide) (by decide) (by decide) (by decide) (by decide)), h5.eqb (p5 15 (by decide) (by decide) (by decide) (by decide) (by decide)), h6.eqb (p5 10 (by decide) (by decide) (by decide) (by decide) (by decide)) (p5 17 (by decide) (by decide) (by decide) (by decide) (by decide))⟩, fun b hb => p5 b (by omega) (by omega) (by omega) (by omega) (by omega)⟩
theorem tC_lt {b r k : Nat} (h : tC b r k) : 20 ≤ b := by unfold tC tH tR tA at h; omega
theorem mx_step {M M1 : Mem} {S : LSt} {o : Chg} {v : Int32} (h : MS M S) (hp : MX M S.1 S.2.1 false o v M1) : v = o.1 ∧ MS M1 (nS S o) ∧ F19 M M1 := by
  obtain ⟨h1, h2, h3, h4, h5, h6, h7⟩ := h
  obtain ⟨p1, p2, p3, p4, p5, -⟩ := hp
  subst p1
  refine ⟨rfl, ⟨p2, p4, p3, h4.fq p5 (fun b r k q p => ?_), h5.fq p5 (fun b r k q p => ?_), h6.fq p5 (fun p => ?_) (fun k p => ?_), by rw [p5 32 0 11 (fun p => by unfold tC tH tR tA at p; omega)]; exact h7⟩, fun b hb => funext fun r => funext fun k => p5 b r k (fun q => by have := tC_lt q; omega)⟩
  · unfold tT at q; unfold tC tH tR tA at p; omega
  · unfold tL at q; unfold tC tH tR tA at p; omega
  · unfold tC tH tR tA at p; omega
  · unfold tC tH tR tA at p; omega
theorem hsN_mem {g h : LG} {hs : List LG} {v : Int32} (q : h ∈ hsN g hs v) : h = g ∨ h ∈ hs := by
  unfold hsN at q
  split at q
  · exact Or.inr q
  · exact List.mem_cons.mp (List.mem_of_mem_take q)
theorem IV.kp {S : LSt} {n : Nat} {o : Chg} (h : IV S n) (hk : Kp n o) (hn : n + 31 ≤ 100000) : IV (nS S o) (n + 31) := by
  obtain ⟨⟨a, b, h1⟩, h2, h3, h4⟩ := h
  obtain ⟨c, d, k1⟩ := hk
  refine ⟨⟨c, d, k1.succ (by omega) hn⟩, fun x hx => ?_, h3, fun x hx => (h4 x hx).elim fun a q => q.elim fun b q => ⟨a, b, q.succ (by omega) hn⟩⟩
  rcases hsN_mem hx with rfl | hx
  · exact ⟨a, b, h1.succ (by omega) hn⟩
  · exact (h2 x hx).elim fun a q => q.elim fun b q => ⟨a, b, q.succ (by omega) hn⟩
/-! what else moves -/
theorem w_step {M M1 : Mem} {S : LSt} (h : MS M S) (hg : gF (M1 20 0) = S.1) (e : Fq tW M M1) : MS M1 S ∧ F19 M M1 :=
  ⟨h.fq e hg (fun b r k q => by unfold tW at q; omega), fun b hb => funext fun r => funext fun k => e b r k (fun q => by unfold tW at q; omega)⟩
def sT (S : LSt) (t : List Int32) : LSt := (S.1, S.2.1, S.2.2.1, t, S.2.2.2.2)
def sL (S : LSt) (l : List Int32) : LSt := (S.1, S.2.1, S.2.2.1, S.2.2.2.1, l, S.2.2.2.2.2)
def sV (S : LSt) (v : Option LG) : LSt := (S.1, S.2.1, S.2.2.1, S.2.2.2.1, S.2.2.2.2.1, v)
def sU (S : LSt) (u : LG × List LG) : LSt := (u.1, u.2, S.2.2)
theorem xt_step {M M1 : Mem} {S : LSt} {t : List Int32} (h : XS M S) (hT : TS M1 14 t) (e : Off 14 M M1) : XS M1 (sT S t) ∧ F20 M M1 := by
  obtain ⟨h1, ⟨nx, h2⟩, h3, h4, h5, h6⟩ := h
  exact ⟨⟨by rw [e 9 (by decide)]; exact h1, ⟨nx, h2.like (fun b hb => e b (by omega))⟩, h3.like (e 16 (by decide)), hT, h5.eqb (e 15 (by decide)), h6.eqb (e 10 (by decide)) (e 17 (by decide))⟩, fun b hb => e b (by omega)⟩
theorem xl_step {M M1 : Mem} {S : LSt} {t : List Int32} (h : XS M S) (hT : TS M1 15 t) (e : Off 15 M M1) : XS M1 (sL S t) ∧ F20 M M1 := by
  obtain ⟨h1, ⟨nx, h2⟩, h3, h4, h5, h6⟩ := h
  exact ⟨⟨by rw [e 9 (by decide)]; exact h1, ⟨nx, h2.like (fun b hb => e b (by omega))⟩, h3.like (e 16 (by decide)), h4.eqb (e 14 (by decide)), hT, h6.eqb (e 10 (by decide)) (e 17 (by decide))⟩, fun b hb => e b (by omega)⟩
theorem mt_step {M M1 : Mem} {S : LSt} {t : List Int32} (h : MS M S) (hT : TM M1 t) (e : Fq tT M M1) : MS M1 (sT S t) ∧ F19 M M1 := by
  obtain ⟨h1, h2, h3, h4, h5, h6, h7⟩ := h
  refine ⟨⟨by rw [e.row (fun k p => by unfold tT at p; omega)]; exact h1, h2.fq e (fun b r k q p => ?_), h3.fq e (fun b r k q p => ?_), hT, h5.fq e (fun b r k q p => ?_), h6.fq e (fun p => ?_) (fun k p => ?_), by rw [e 32 0 11 (fun p => by unfold tT at p; omega)]; exact h7⟩, fun b hb => funext fun r => funext fun k => e b r k (fun q => by unfold tT at q; omega)⟩
  · unfold tH at q; unfold tT at p; omega
  · unfold tR at q; unfold tT at p; omega
  · unfold tL at q; unfold tT at p; omega
  · unfold tT at p; omega
  · unfold tT at p; omega
theorem ml_step {M M1 : Mem} {S : LSt} {t : List Int32} (h : MS M S) (hT : LM M1 t) (e : Fq tL M M1) : MS M1 (sL S t) ∧ F19 M M1 := by
  obtain ⟨h1, h2, h3, h4, h5, h6, h7⟩ := h
  refine ⟨⟨by rw [e.row (fun k p => by unfold tL at p; omega)]; exact h1, h2.fq e (fun b r k q p => ?_), h3.fq e (fun b r k q p => ?_), h4.fq e (fun b r k q p => ?_), hT, h6.fq e (fun p => ?_) (fun k p => ?_), by rw [e 32 0 11 (fun p => by unfold tL at p; omega)]; exact h7⟩, fun b hb => funext fun r => funext fun k => e b r k (fun q => by unfold tL at q; omega)⟩
  · unfold tH at q; unfold tL at p; omega
  · unfold tR at q; unfold tL at p; omega
  · unfold tT at q; unfold tL at p; omega
  · unfold tL at p; omega
  · unfold tL at p; omega
theorem IV.l {S : LSt} {n : Nat} {l : List Int32} (h : IV S n) (hn : n + 31 ≤ 100000) : IV (sL S l) (n + 31) := IV.up (S := sL S l) h (by omega) hn
theorem IV.t {S : LSt} {n : Nat} {x : Int32} (h : IV S n) (hn : n + 31 ≤ 100000) : IV (sT S (aAppend S.2.2.2.1 x).2) (n + 31) := by
  have h0 := h.up (Nat.le_add_right n 31) hn
  refine ⟨h0.1, h0.2.1, fun y hy => ?_, h0.2.2.2⟩
  have hy : y ∈ (aAppend S.2.2.2.1 x).2 := hy
  unfold aAppend at hy
  split at hy
  · exact h.2.2.1 y hy
  · next hx =>
    split at hy
    · exact h.2.2.1 y hy
    · rcases List.mem_append.mp hy with hy | hy
      · exact h.2.2.1 y hy
      · rw [List.mem_singleton.mp hy]
        have hx : inB x 32 126 = true := by simpa using hx
        unfold inB at hx
        obtain ⟨a1, a2⟩ := and_ff (by rw [hx]; decide)
        have b1 : ¬ x < 32 := by simpa using a1
        have b2 : ¬ (126 : Int32) < x := by simpa using a2
        have c1 : (32 : Int) ≤ x.toInt := by have := mt Int32.lt_iff_toInt_lt.mpr b1; rw [show (32 : Int32).toInt = 32 from rfl] at this; omega
        have c2 : x.toInt ≤ 126 := by have := mt Int32.lt_iff_toInt_lt.mpr b2; rw [show (126 : Int32).toInt = 126 from rfl] at this; omega
        refine ⟨x.toInt.toNat, by omega, by omega, ?_⟩
        apply Int32.toInt_inj.mp
        rw [nI_toInt (by omega)]
        omega
theorem xu_step {M M1 : Mem} {S : LSt} {u : LG × List LG} (h : XS M S) (hg : gX (M1 9) = u.1) (hH : ∃ nx, HX0 M1 nx u.2) (e : ∀ b, 10 ≤ b → b ≠ 18 → M1 b = M b) : XS M1 (sU S u) ∧ F20 M M1 := by
  obtain ⟨h1, -, h3, h4, h5, h6⟩ := h
  exact ⟨⟨hg, hH, h3.like (e 16 (by decide) (by decide)), h4.eqb (e 14 (by decide) (by decide)), h5.eqb (e 15 (by decide) (by decide)), h6.eqb (e 10 (by decide) (by decide)) (e 17 (by decide) (by decide))⟩, fun b hb => e b (by omega) (by omega)⟩
theorem mu_step {M M1 : Mem} {S : LSt} {u : LG × List LG} (h : MS M S) (hg : gF (M1 20 0) = u.1) (hH : HM M1 u.2) (e : Fq tU M M1) : MS M1 (sU S u) ∧ F19 M M1 := by
  obtain ⟨h1, h2, h3, h4, h5, h6, h7⟩ := h
  refine ⟨⟨hg, hH, h3.fq e (fun b r k q p => ?_), h4.fq e (fun b r k q p => ?_), h5.fq e (fun b r k q p => ?_), h6.fq e (fun p => ?_) (fun k p => ?_), by rw [e 32 0 11 (fun p => by unfold tU at p; omega)]; exact h7⟩, fun b hb => funext fun r => funext fun k => e b r k (fun q => by unfold tU at q; omega)⟩
  · unfold tR at q; unfold tU at p; omega
  · unfold tT at q; unfold tU at p; omega
  · unfold tL at q; unfold tU at p; omega
  · unfold tU at p; omega
  · unfold tU at p; omega
theorem IV.u {S : LSt} {n : Nat} (h : IV S n) (hn : n + 31 ≤ 100000) : IV (sU S (aUndo S.1 S.2.1).2) (n + 31) := by
  have h0 := h.up (Nat.le_add_right n 31) hn
  obtain ⟨g, hs, S'⟩ := S
  cases hs with
  | nil => exact ⟨h0.1, fun x hx => absurd hx List.not_mem_nil, h0.2.2⟩
  | cons a tl => exact ⟨h0.2.1 a List.mem_cons_self, fun x hx => h0.2.1 x (List.mem_cons_of_mem _ hx), h0.2.2⟩
theorem xv_step {M M1 : Mem} {S : LSt} (h : XS M S) (hg : gX (M1 10) = S.1) (h2 : M1 17 0 2 = 1) (e : ∀ b, b ≠ 10 → b ≠ 17 → M1 b = M b) : XS M1 (sV S (some S.1)) ∧ F20 M M1 := by
  obtain ⟨h1, ⟨nx, hH⟩, h3, h4, h5, h6⟩ := h
  exact ⟨⟨by rw [e 9 (by decide) (by decide)]; exact h1, ⟨nx, hH.like (fun b hb => e b (by omega) (by omega))⟩, h3.like (e 16 (by decide) (by decide)), h4.eqb (e 14 (by decide) (by decide)), h5.eqb (e 15 (by decide) (by decide)), ⟨h2, hg⟩⟩, fun b hb => e b (by omega) (by omega)⟩
theorem mv_step {M M1 : Mem} {S : LSt} (h : MS M S) (hg : gF (M1 21 0) = S.1) (h10 : M1 32 0 10 = 1) (e : Fq tS M M1) : MS M1 (sV S (some S.1)) ∧ F19 M M1 := by
  obtain ⟨h1, h2, h3, h4, h5, h6, h7⟩ := h
  refine ⟨⟨by rw [e.row (fun k p => by unfold tS at p; omega)]; exact h1, h2.fq e (fun b r k q p => ?_), h3.fq e (fun b r k q p => ?_), h4.fq e (fun b r k q p => ?_), h5.fq e (fun b r k q p => ?_), ⟨h10, hg⟩, by rw [e 32 0 11 (fun p => by unfold tS at p; omega)]; exact h7⟩, fun b hb => funext fun r => funext fun k => e b r k (fun q => by unfold tS at q; omega)⟩
  · unfold tH at q; unfold tS at p; omega
  · unfold tR at q; unfold tS at p; omega
  · unfold tT at q; unfold tS at p; omega
  · unfold tL at q; unfold tS at p; omega
theorem IV.v {S : LSt} {n : Nat} (h : IV S n) (hn : n + 31 ≤ 100000) : IV (sV S (some S.1)) (n + 31) := by
  have h0 := h.up (Nat.le_add_right n 31) hn
  exact ⟨h0.1, h0.2.1, h0.2.2.1, fun x hx => by cases hx; exact h0.1⟩
theorem xr_step {M M1 : Mem} {S : LSt} {g : LG} (h : XS M S) (hg : gX (M1 9) = g) (h2 : M1 18 0 2 = 0) (h1 : M1 18 0 1 = M 18 0 1) (e : ∀ b, b ≠ 9 → b ≠ 18 → M1 b = M b) : XS M1 (sU S (g, [])) ∧ F20 M M1 := by
  obtain ⟨nx, hH⟩ := h.2.1
  exact xu_step h hg ⟨nx, by rw [h1]; exact hH.1, hH.2.1, h2, Nat.zero_le _, fun i hi => absurd hi (Nat.not_lt_zero i)⟩ (fun b h9 h18 => e b (by omega) h18)
theorem IV.r {S : LSt} {n : Nat} {g : LG} (h : IV S n) (hs : S.2.2.2.2.2 = some g) (hn : n + 31 ≤ 100000) : IV (sU S (g, [])) (n + 31) := by
  have h0 := h.up (Nat.le_add_right n 31) hn
  exact ⟨h0.2.2.2 g hs, fun x hx => absurd hx List.not_mem_nil, h0.2.2⟩
theorem runL_kp {g0 : LG} : ∀ (l : List Ord) (k : Nat) (g : LG) (rs : Rs) (n a b c d : Nat), Inv g0 c d n → Inv g a b n → n + l.length ≤ 100000 → ∃ a b, Inv (runL g0 k g rs l).2.1 a b (n + l.length)
  | [], k, g, rs, n, a, b, c, d, h0, h, hn => ⟨a, b, h⟩
  | o :: os, k, g, rs, n, a, b, c, d, h0, h, hn => by
    have hl : (o :: os).length = os.length + 1 := rfl
    rw [hl] at hn ⊢
    unfold runL
    split
    · exact ⟨c, d, h0.succ (by omega) hn⟩
    · obtain ⟨a', b', h'⟩ := oOrder_kp (rs := rs) (o := o) h (by omega)
      rw [show n + (os.length + 1) = n + 1 + os.length by omega]
      exact runL_kp os (k + 1) _ _ (n + 1) a' b' c d (h0.succ (by omega) (by omega)) h' (by omega)
theorem oRun_inv {g : LG} {rs : Rs} {t : List Int32} {n a b : Nat} (h : Inv g a b n) (hn : n + 31 ≤ 100000) : ∃ a b, Inv (oRun g rs t).2.1 a b (n + 31) := by
  have hl : (pTxt t 30 0).2.length ≤ 30 := pTxt_len 30 0
  unfold oRun
  split
  · obtain ⟨a', b', h'⟩ := runL_kp (pTxt t 30 0).2 0 g rs n a b a b h h (by omega)
    exact ⟨a', b', h'.succ (by omega) hn⟩
  · exact ⟨a, b, h.succ (by omega) hn⟩
noncomputable def rS (S : LSt) : LSt := ((oRun S.1 S.2.2.1 S.2.2.2.1).2.1, hsN S.1 S.2.1 (oRun S.1 S.2.2.1 S.2.2.2.1).1, (oRun S.1 S.2.2.1 S.2.2.2.1).2.2, [], S.2.2.2.2)
theorem xrun_step {M M1 : Mem} {S : LSt} {v : Int32} (h : XS M S) (hp : RunP M S.1 S.2.1 S.2.2.1 S.2.2.2.1 v M1) : v = (oRun S.1 S.2.2.1 S.2.2.2.1).1 ∧ XS M1 (rS S) ∧ F20 M M1 := by
  obtain ⟨h1, ⟨nx, h2⟩, h3, h4, h5, h6⟩ := h
  obtain ⟨p1, p2, p3, p4, p5, p6⟩ := hp
  subst p1
  exact ⟨rfl, ⟨p2, p4, p3, p5, h5.eqb (p6 15 (by decide) (by decide) (by decide) (by decide) (by decide) (by decide) (by decide)), h6.eqb (p6 10 (by decide) (by decide) (by decide) (by decide) (by decide) (by decide) (by decide)) (p6 17 (by decide) (by decide) (by decide) (by decide) (by decide) (by decide) (by decide))⟩, fun b hb => p6 b (by omega) (by omega) (by omega) (by omega) (by omega) (by omega) (by omega)⟩
theorem mrun_step {M M1 : Mem} {S : LSt} {v : Int32} (h : MS M S) (hp : RunM M S.1 S.2.1 S.2.2.1 S.2.2.2.1 v M1) : v = (oRun S.1 S.2.2.1 S.2.2.2.1).1 ∧ MS M1 (rS S) ∧ F19 M M1 := by
  obtain ⟨h1, h2, h3, h4, h5, h6, h7⟩ := h
  obtain ⟨p1, p2, p3, p4, p5, p6, e⟩ := hp
  subst p1
  refine ⟨rfl, ⟨p2, p4, p3, p5, h5.fq e (fun b r k q p => ?_), h6.fq e (fun p => ?_) (fun k p => ?_), p6⟩, fun b hb => funext fun r => funext fun k => e b r k (fun q => by unfold tX at q; omega)⟩
  · unfold tL at q; unfold tX at p; omega
  · unfold tX at p; omega
  · unfold tX at p; omega
theorem IV.run {S : LSt} {n : Nat} (h : IV S n) (hn : n + 31 ≤ 100000) : IV (rS S) (n + 31) := by
  have h0 := h.up (Nat.le_add_right n 31) hn
  obtain ⟨a, b, h1⟩ := h.1
  refine ⟨oRun_inv h1 hn, fun x hx => ?_, fun x hx => absurd hx List.not_mem_nil, h0.2.2.2⟩
  rcases hsN_mem hx with rfl | hx
  · exact h0.1
  · exact h0.2.1 x hx
