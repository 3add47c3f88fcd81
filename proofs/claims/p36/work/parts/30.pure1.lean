/-! ===== what the law asks of the league: counting pairs; seats that nobody would rather have otherwise ===== -/
theorem rhad_iff {g : LG} {nc nm c a b : Nat} (h : Fb g nc nm) (hc : c < nc) (ha : a < nm) (hb : b < nm) : rhad g c a b = true ↔ dpf (ftN g c) a b := by
  obtain ⟨x, -, hx, ex⟩ := h.2.2.1 c a hc ha
  obtain ⟨y, -, hy, ey⟩ := h.2.2.1 c b hc hb
  unfold rhad zmore dpf ftN
  rw [ex, ey, zsb1 x (by omega) y (by omega), zsb2 x (by omega) y (by omega), nI_clamp (by omega), nI_clamp (by omega)]
  simp
/-- what the asking leaves is such that no chair and musician would rather have each other -/
theorem DAr_stable {g : LG} {nc nm : Nat} {a : LG} (hF : Fb g nc nm) (h : DAr g nc nm a) {c m : Nat} (hc : c < nc) (hm : m < nm) (hw : wants g c m = true) (hb : bears g m c = true) (h1 : a 2 c = -1 ∨ rhad g c m (a 2 c).toNatClampNeg = true) (h2 : a 3 m = -1 ∨ rsat g c (a 3 m).toNatClampNeg = true) : False := by
  obtain ⟨A, hT, hf⟩ := h
  have h10 := hF.1
  have m10 := hF.2.1
  have hfl : fell g c = false := by
    unfold bears at hb
    simp only [Bool.and_eq_true, Bool.not_eq_true'] at hb
    exact hb.1
  have hwt : wtB g nc nm c m = true := by unfold wtB; simp [hc, hm, hw, hfl]
  cases hA : A c m with
  | true =>
    rcases hT.pl m hm with ⟨-, q⟩ | ⟨c1, q1, q2⟩
    · rw [q c hA] at hb; cases hb
    · have hc1 := (hT.lt q2.1).1
      rcases h2 with e | e
      · rw [q1] at e; exact nI_ne_m1 (by omega) e
      · rw [q1, nI_clamp (by omega)] at e
        have e := (rsat_iff hF hc hc1).mp e
        by_cases ee : c = c1
        · subst ee; exact dpf_ir e
        · exact dpf_as e (q2.2.2 c hA hb ee)
  | false =>
    rcases hf c m hwt with q | ⟨m', q⟩
    · rw [hA] at q; cases q
    · have hm' := (hT.lt q.1).2
      have hs := hT.ef.1 m' c hm' hc (hT.held h10 q)
      rcases h1 with e | e
      · rw [hs] at e; exact nI_ne_m1 (by omega) e
      · rw [hs, nI_clamp (by omega)] at e
        have e := (rhad_iff hF hc hm hm').mp e
        have := hT.un.1.2 c m' m q.1 hwt e
        rw [hA] at this; cases this
theorem DAr_wants {g : LG} {nc nm : Nat} {a : LG} (hF : Fb g nc nm) (h : DAr g nc nm a) {c m : Nat} (hc : c < nc) (hm : m < nm) (e : a 2 c = nI m) : wants g c m = true := by
  obtain ⟨A, hA, -⟩ := h
  have hn := hF.1
  have hm10 := hF.2.1
  rcases hA.ef.2 c hc with q | ⟨m', hm', q1, q2⟩
  · rw [q] at e; exact absurd e.symm (nI_ne_m1 (by omega))
  · have := nI_inj (by omega) (by omega) (q1.symm.trans e)
    subst this
    rcases hA.pl m' hm' with ⟨q, -⟩ | ⟨c1, q3, q4⟩
    · rw [q2] at q; exact absurd q (nI_ne_m1 (by omega))
    · have := (hA.lt q4.1).1
      have := nI_inj (by omega) (by omega) (q2.symm.trans q3)
      subst this
      have hw := hA.un.1.1 c m' q4.1
      unfold wtB at hw
      simp only [Bool.and_eq_true, decide_eq_true_eq] at hw
      exact hw.1.2
theorem matS_wants {g : LG} {nc nm : Nat} (hF : Fb g nc nm) {c m : Nat} (hc : c < nc) (hm : m < nm) (e : matS g nc nm c = nI m) : wants g c m = true := by
  obtain ⟨a, ha⟩ := DAr_ex hF
  exact DAr_wants hF ha hc hm (by rw [matS_of hF ha hc]; exact e)
/-! counting -/
def sumN (f : Nat → Nat) : Nat → Nat
  | 0 => 0
  | n + 1 => sumN f n + f n
theorem sumN_congr {f h : Nat → Nat} {n : Nat} (e : ∀ k, k < n → f k = h k) : sumN f n = sumN h n := by
  induction n with
  | zero => rfl
  | succ n ih => unfold sumN; rw [ih (fun k hk => e k (by omega)), e n (by omega)]
theorem sumN_add {f h : Nat → Nat} {n : Nat} : sumN (fun k => f k + h k) n = sumN f n + sumN h n := by
  induction n with
  | zero => rfl
  | succ n ih => unfold sumN; rw [ih]; omega
theorem sumN_zero {n : Nat} : sumN (fun _ => 0) n = 0 := by
  induction n with
  | zero => rfl
  | succ n ih => unfold sumN; rw [ih]
theorem sumN_le {f : Nat → Nat} {n : Nat} (e : ∀ k, k < n → f k ≤ 1) : sumN f n ≤ n := by
  induction n with
  | zero => exact Nat.le_refl 0
  | succ n ih => unfold sumN; have := ih (fun k hk => e k (by omega)); have := e n (by omega); omega
theorem cntB_sum {p : Nat → Bool} {n : Nat} : cntB p n = sumN (fun k => bN (p k)) n := by
  induction n with
  | zero => rfl
  | succ n ih => unfold cntB sumN; rw [ih]; unfold bN; rfl
theorem cntB_congr {p q : Nat → Bool} {n : Nat} (h : ∀ k, k < n → p k = q k) : cntB p n = cntB q n := by
  induction n with
  | zero => rfl
  | succ n ih => unfold cntB; rw [ih (fun k hk => h k (by omega)), h n (by omega)]
theorem sumN_swap {R : Nat → Nat → Nat} {a b : Nat} : sumN (fun i => sumN (R i) b) a = sumN (fun j => sumN (fun i => R i j) a) b := by
  induction a with
  | zero => show 0 = sumN (fun _ => 0) b; rw [sumN_zero]
  | succ a ih =>
    show sumN (fun i => sumN (R i) b) a + sumN (R a) b = sumN (fun j => sumN (fun i => R i j) a + R a j) b
    rw [ih, sumN_add]
theorem sumN_one {n k : Nat} (hk : k < n) : sumN (fun j => bN (decide (j = k))) n = 1 := by
  induction n with
  | zero => omega
  | succ n ih =>
    unfold sumN
    by_cases e : n = k
    · subst e
      rw [sumN_congr (h := fun _ => 0) (fun j hj => by have : ¬ j = n := by omega
                                                       simp [bN, this]), sumN_zero]
      simp [bN]
    · rw [ih (by omega)]
      simp [bN, e]
theorem sum_nI {x : Int32} {n : Nat} (hn : n ≤ 10) (h : nOr x n) : sumN (fun j => bN (decide (x = nI j))) n = bN (!decide (x = -1)) := by
  rcases h with rfl | ⟨k, hk, rfl⟩
  · rw [sumN_congr (h := fun _ => 0) (fun j hj => by
      have : ¬ (-1 : Int32) = nI j := fun e => nI_ne_m1 (by omega) e.symm
      simp [bN, this]), sumN_zero]
    rfl
  · rw [sumN_congr (h := fun j => bN (decide (j = k))) (fun j hj => by
      have : (nI k = nI j) ↔ j = k := ⟨fun e => (nI_inj (by omega) (by omega) e).symm, fun e => by rw [e]⟩
      simp [bN, this]), sumN_one hk]
    have : ¬ nI k = -1 := nI_ne_m1 (by omega)
    simp [bN, this]
theorem dEF_iff {nc nm c m : Nat} {p s : Nat → Int32} (hn : nc ≤ 10) (hm10 : nm ≤ 10) (h : dEF nc nm p s) (hc : c < nc) (hm : m < nm) : s c = nI m ↔ p m = nI c := by
  refine ⟨fun e => ?_, h.1 m c hm hc⟩
  rcases h.2 c hc with q | ⟨m', hm', q1, q2⟩
  · rw [q] at e; exact absurd e.symm (nI_ne_m1 (by omega))
  · have := nI_inj (by omega) (by omega) (q1.symm.trans e)
    subst this
    exact q2
/-- as many chairs have a musician as musicians sit -/
theorem dEF_cnt {nc nm : Nat} {p s : Nat → Int32} (hn : nc ≤ 10) (hm10 : nm ≤ 10) (h : dEF nc nm p s) (hp : ∀ m, m < nm → nOr (p m) nc) : cntB (fun c => !decide (s c = -1)) nc = cntB (fun m => !decide (p m = -1)) nm := by
  have hs : ∀ c, c < nc → nOr (s c) nm := fun c hc => by
    rcases h.2 c hc with q | ⟨m, hm, q, -⟩
    · exact Or.inl q
    · exact Or.inr ⟨m, hm, q⟩
  rw [cntB_sum, cntB_sum, sumN_congr (fun c hc => (sum_nI hm10 (hs c hc)).symm), sumN_swap]
  refine sumN_congr (fun m hm => ?_)
  rw [← sum_nI hn (hp m hm)]
  refine sumN_congr (fun c hc => ?_)
  rw [decide_eq_decide.mpr (dEF_iff hn hm10 h hc hm)]
theorem Inv.cnt {g : LG} {nc nm n : Nat} (h : Inv g nc nm n) : cntB (taken g) nc = cntB (sits g) nm :=
  dEF_cnt h.c10 h.m10 h.ef (fun _ hm => h.nor12 hm)
/-! what sits is wanted -/
def SF (g : LG) (nc nm : Nat) : Prop := ∀ c m, c < nc → m < nm → g 6 c = nI m → wants g c m = true
theorem SF.of {g h : LG} {nc nm nc' nm' : Nat} (hg : SF g nc nm) (e : ∀ c m, c < nc' → m < nm' → h 6 c = nI m → c < nc ∧ m < nm ∧ g 6 c = nI m ∧ wants h c m = wants g c m) : SF h nc' nm' := fun c m hc hm h6 => by
  obtain ⟨e1, e2, e3, e4⟩ := e c m hc hm h6
  rw [e4]
  exact hg c m e1 e2 e3
theorem wants_eq {g h : LG} {c m : Nat} (h0 : h 0 c = g 0 c) (h1 : h 1 c = g 1 c) (h7 : h 7 m = g 7 m) (h8 : h 8 m = g 8 m) : wants h c m = wants g c m := by
  unfold wants fit
  rw [h0, h1, h7, h8]
theorem SF.less {g h : LG} {nc nm : Nat} (hg : SF g nc nm) (e : ∀ c, c < nc → h 6 c = g 6 c ∨ h 6 c = -1) (hm10 : nm ≤ 10) (h0 : h 0 = g 0) (h1 : h 1 = g 1) (h7 : h 7 = g 7) (h8 : h 8 = g 8) : SF h nc nm :=
  hg.of (fun c m hc hm h6 => ⟨hc, hm, by
    rcases e c hc with q | q
    · rw [← q]; exact h6
    · rw [q] at h6; exact absurd h6.symm (nI_ne_m1 (by omega)), wants_eq (by rw [h0]) (by rw [h1]) (by rw [h7]) (by rw [h8])⟩)
theorem SF.same {g h : LG} {nc nm : Nat} (hg : SF g nc nm) (h6 : h 6 = g 6) (h0 : h 0 = g 0) (h1 : h 1 = g 1) (h7 : h 7 = g 7) (h8 : h 8 = g 8) : SF h nc nm :=
  hg.of (fun c m hc hm e => ⟨hc, hm, by rw [← h6]; exact e, wants_eq (by rw [h0]) (by rw [h1]) (by rw [h7]) (by rw [h8])⟩)
theorem SF.bC {g : LG} {nc nm n : Nat} {s d : Int32} (hg : SF g nc nm) (hI : Inv g nc nm n) : SF (bringC g nc s d) (nc + 1) nm := by
  have hm10 := hI.m10
  refine hg.of (fun c m hc hm h6 => ?_)
  have e6 : bringC g nc s d 6 c = if c = nc then -1 else g 6 c := by
    unfold bringC; simp [gu_r]
  rw [e6] at h6
  by_cases e : c = nc
  · rw [if_pos e] at h6; exact absurd h6.symm (nI_ne_m1 (by omega))
  · rw [if_neg e] at h6
    exact ⟨by omega, hm, h6, wants_eq (by unfold bringC; simp [gu_r, e]) (by unfold bringC; simp [gu_r, e]) (by unfold bringC; simp [gu_r]) (by unfold bringC; simp [gu_r])⟩
theorem SF.bM {g : LG} {nc nm n : Nat} {s k d : Int32} (hg : SF g nc nm) (hI : Inv g nc nm n) (hn : nm < 10) : SF (bringM g nm s k d) nc (nm + 1) := by
  have hm10 := hI.m10
  refine hg.of (fun c m hc hm h6 => ?_)
  have e6 : bringM g nm s k d 6 c = g 6 c := by unfold bringM; simp [gu_r]
  rw [e6] at h6
  have hmn : m < nm := by
    rcases hI.sit hc with q | ⟨m', hm', q, -⟩
    · rw [q] at h6; exact absurd h6.symm (nI_ne_m1 (by omega))
    · have := nI_inj (by omega) (by omega) (q.symm.trans h6)
      omega
  have e : ¬ m = nm := by omega
  exact ⟨hc, hmn, h6, wants_eq (by unfold bringM; simp [gu_r]) (by unfold bringM; simp [gu_r]) (by unfold bringM; simp [gu_r, e]) (by unfold bringM; simp [gu_r, e])⟩
theorem SF.sitq {g : LG} {nc nm c m : Nat} (hg : SF g nc nm) (hm10 : nm ≤ 10) (hm : m < nm) (hw : wants g c m = true) : SF (sitG g c m) nc nm := fun c' m' hc' hm' h6 => by
  rw [show wants (sitG g c m) c' m' = wants g c' m' from wants_eq (sitG_off (by decide)) (sitG_off (by decide)) (sitG_off (by decide)) (sitG_off (by decide))]
  unfold sitG at h6
  rw [gu_ne (by omega), gu_r] at h6
  by_cases e : c' = c
  · subst e
    rw [if_pos ⟨rfl, rfl⟩] at h6
    rw [← nI_inj (by omega) (by omega) h6]
    exact hw
  · rw [if_neg (fun q => e q.2)] at h6
    exact hg c' m' hc' hm' h6
theorem leaveG_6q {g : LG} {nc nm n m : Nat} (h : Inv g nc nm n) (hm : m < nm) : ∀ c, c < nc → leaveG g m 6 c = g 6 c ∨ leaveG g m 6 c = -1 := fun c hc => by
  rw [leaveG_6' h hm hc]
  split
  · exact Or.inr rfl
  · exact Or.inl rfl
theorem SF.lv {g : LG} {nc nm n m : Nat} (hg : SF g nc nm) (h : Inv g nc nm n) (hm : m < nm) : SF (leaveG g m) nc nm :=
  hg.less (leaveG_6q h hm) h.m10 (funext fun _ => leaveG_off (by decide)) (funext fun _ => leaveG_off (by decide)) (funext fun _ => leaveG_off (by decide)) (funext fun _ => leaveG_off (by decide))
theorem SF.lvN {g : LG} {nc nm n k : Nat} (hg : SF g nc nm) (h : Inv g nc nm n) (hk : k ≤ nm) : SF (leaveN g k) nc nm := by
  induction k with
  | zero => exact hg
  | succ k ih => exact (ih (by omega)).lv (leaveN_inv h (by omega)) (by omega)
/-- the season's seats -/
theorem DAr_congr {g h : LG} {nc nm : Nat} (h0 : h 0 = g 0) (h1 : h 1 = g 1) (h2 : h 2 = g 2) (h3 : h 3 = g 3) (h4 : h 4 = g 4) (h7 : h 7 = g 7) (h8 : h 8 = g 8) (h9 : h 9 = g 9) : DAr h nc nm = DAr g nc nm := by
  have ef := fit_congr h0 h1 h7 h8
  have ec := comf_congr h2 h4
  have ew : wants h = wants g := by funext c m; unfold wants; rw [ef]
  have el : fell h = fell g := by funext c; unfold fell; rw [h3]
  have eb : bears h = bears g := by funext m c; unfold bears; rw [el, ec, h9]
  have et : wtB h nc nm = wtB g nc nm := by funext c m; unfold wtB; rw [ew, el]
  have en : ftN h = ftN g := by funext c m; unfold ftN; rw [ef]
  have em : cfN h = cfN g := by funext c; unfold cfN; rw [ec]
  funext a
  unfold DAr TI
  rw [eb, et, en, em]
theorem matS_leave {g : LG} {nc nm k c : Nat} (hF : Fb g nc nm) (hc : c < nc) : matS (leaveN g k) nc nm c = matS g nc nm c := by
  have hr : ∀ j, j ≠ 6 ∧ j ≠ 11 ∧ j ≠ 12 → leaveN g k j = g j := fun j hj => funext fun _ => leaveN_off hj
  have e : DAr (leaveN g k) nc nm = DAr g nc nm := DAr_congr (hr 0 (by decide)) (hr 1 (by decide)) (hr 2 (by decide)) (hr 3 (by decide)) (hr 4 (by decide)) (hr 7 (by decide)) (hr 8 (by decide)) (hr 9 (by decide))
  obtain ⟨a, ha⟩ := DAr_ex hF
  rw [← matS_of hF ha hc, ← matS_of (Fb_leave hF) (by rw [e]; exact ha) hc]
theorem seatBy_6 {s : Nat → Int32} {g : LG} {nc nm k c : Nat} (hm10 : nm ≤ 10) (hs : ∀ c, c < nc → nOr (s c) nm) (hk : k ≤ nc) : seatBy s g k 6 c = if c < k ∧ ¬ s c = -1 then s c else g 6 c := by
  induction k with
  | zero => rw [if_neg (by omega)]; rfl
  | succ k ih =>
    unfold seatBy
    rcases hs k (by omega) with q | ⟨m, hm, q⟩
    · rw [if_pos q, ih (by omega)]
      by_cases e : c = k
      · subst e; rw [if_neg (by omega), if_neg (fun z => z.2 q)]
      · by_cases h1 : c < k ∧ ¬ s c = -1
        · rw [if_pos h1, if_pos ⟨by omega, h1.2⟩]
        · rw [if_neg h1, if_neg (fun z => h1 ⟨by omega, z.2⟩)]
    · have hne : ¬ s k = -1 := by rw [q]; exact nI_ne_m1 (by omega)
      rw [if_neg hne]
      unfold sitG
      rw [gu_ne (by omega), gu_r]
      by_cases e : c = k
      · subst e
        rw [if_pos ⟨rfl, rfl⟩, if_pos ⟨by omega, hne⟩, q, nI_clamp (by omega)]
      · rw [if_neg (fun z => e z.2), ih (by omega)]
        by_cases h1 : c < k ∧ ¬ s c = -1
        · rw [if_pos h1, if_pos ⟨by omega, h1.2⟩]
        · rw [if_neg h1, if_neg (fun z => h1 ⟨by omega, z.2⟩)]
