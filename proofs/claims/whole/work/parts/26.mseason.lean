theorem rhad_iff {g : LG} {nc nm c a b : Nat} (h : Fb g nc nm) (hc : c < nc) (ha : a < nm) (hb : b < nm) : rhad g c a b = true ↔ dpf (ftN g c) a b := by
  obtain ⟨x, -, hx, ex⟩ := h.2.2.1 c a hc ha
  obtain ⟨y, -, hy, ey⟩ := h.2.2.1 c b hc hb
  unfold rhad zmore dpf ftN
  rw [ex, ey, zsb1 x (by omega) y (by omega), zsb2 x (by omega) y (by omega), nI_clamp (by omega), nI_clamp (by omega)]
  simp
theorem and1 (y : Int32) : y &&& 1 = 0 ∨ y &&& 1 = 1 := by
  cases q : bt y 0 with
  | false =>
    refine Or.inl (b_ext fun i hi => ?_)
    rw [b_and, b_1 i hi, b_0]
    by_cases e : i = 0
    · subst e; rw [q]; rfl
    · simp [e]
  | true =>
    refine Or.inr (b_ext fun i hi => ?_)
    rw [b_and, b_1 i hi]
    by_cases e : i = 0
    · subst e; rw [q]; rfl
    · simp [e]
def nxB (x : Int32) (n : Nat) : Bool := decide ((x >>> (nI n &&& 31)) &&& 1 = 0)
theorem nxB_bt {x : Int32} {n : Nat} (hn : n < 31) : nxB x n = !bt x n := by
  rw [← lftB_bt hn]
  unfold nxB lftB
  rcases and1 (x >>> (nI n &&& 31)) with e | e <;> rw [e] <;> decide
/-- whom a chair of the reference asks next -/
def nxA (h : LG) (x : Int32) (c : Nat) : Nat → Int32
  | 0 => -1
  | n + 1 => if wants h c n && nxB x n && (decide (nxA h x c n = -1) || rhad h c n (nxA h x c n).toNatClampNeg) then nI n else nxA h x c n
theorem nxA_s {h : LG} {x : Int32} {c n : Nat} : nxA h x c (n + 1) = if wants h c n && nxB x n && (decide (nxA h x c n = -1) || rhad h c n (nxA h x c n).toNatClampNeg) then nI n else nxA h x c n := rfl
theorem nxA_no {h : LG} {x : Int32} {c n : Nat} : nOr (nxA h x c n) n := by
  induction n with
  | zero => exact Or.inl rfl
  | succ n ih =>
    rw [nxA_s]
    split
    · exact Or.inr ⟨n, by omega, rfl⟩
    · exact ih.le (by omega)
theorem nxA_spec {g : LG} {nc nm c n : Nat} {x : Int32} (h : Fb g nc nm) (hc : c < nc) (hn : n ≤ nm) :
    (nxA g x c n = -1 ∧ ∀ m, m < n → (wants g c m && nxB x m) = false) ∨ ∃ m, m < n ∧ (wants g c m && nxB x m) = true ∧ nxA g x c n = nI m ∧ ∀ m', m' < n → (wants g c m' && nxB x m') = true → m' ≠ m → dpf (ftN g c) m m' := by
  have h20 := h.2.1
  induction n with
  | zero => exact Or.inl ⟨rfl, fun m hm => absurd hm (Nat.not_lt_zero m)⟩
  | succ n ih =>
    rcases ih (by omega) with ⟨q1, q2⟩ | ⟨m, hm, hl, q1, q2⟩
    · cases e : (wants g c n && nxB x n) with
      | true =>
        refine Or.inr ⟨n, by omega, e, by rw [nxA_s, q1, e]; rfl, fun m' hm' hl' hne => ?_⟩
        rw [q2 m' (by omega)] at hl'; cases hl'
      | false =>
        refine Or.inl ⟨by rw [nxA_s, e, q1]; rfl, fun m hm => ?_⟩
        by_cases em : m = n
        · subst em; exact e
        · exact q2 m (by omega)
    · have hr := rhad_iff h hc (show n < nm by omega) (show m < nm by omega)
      have e0 : nxA g x c (n + 1) = if (wants g c n && nxB x n && rhad g c n m) = true then nI n else nI m := by
        rw [nxA_s, q1, nI_clamp (by omega), decide_eq_false (nI_ne_m1 (by omega)), Bool.false_or]
      cases e : (wants g c n && nxB x n) with
      | false =>
        refine Or.inr ⟨m, by omega, hl, by rw [e0, e]; rfl, fun m' hm' hl' hne => ?_⟩
        by_cases em : m' = n
        · subst em; rw [e] at hl'; cases hl'
        · exact q2 m' (by omega) hl' hne
      | true =>
        cases er : rhad g c n m with
        | true =>
          have hd := hr.mp er
          refine Or.inr ⟨n, by omega, e, by rw [e0, e, er]; rfl, fun m' hm' hl' hne => ?_⟩
          by_cases em : m' = m
          · subst em; exact hd
          · exact dpf_tr hd (q2 m' (by omega) hl' em)
        | false =>
          have hd : ¬ dpf (ftN g c) n m := fun q => by rw [hr.mpr q] at er; cases er
          refine Or.inr ⟨m, by omega, hl, by rw [e0, e, er]; rfl, fun m' hm' hl' hne => ?_⟩
          by_cases em : m' = n
          · subst em; exact dpf_tot (fun z => by omega) hd
          · exact q2 m' (by omega) hl' hne
/-- the reference's asking as the class's rows -/
def aM (g h : LG) (q : Nat → Int32) (nm : Nat) : LG := fun j k => if j = 0 then (if fell g k = true then 0 else wset g k nm &&& (q k ^^^ (-1))) else if j = 2 then h 6 k else if j = 3 then h 12 k else 0
theorem aM_lf {g h : LG} {q : Nat → Int32} {nc nm : Nat} {A : Rl} (hn : nm ≤ 10) (hq : ∀ c, c < nc → ∀ i, i < nm → bt (q c) i = A c i) : ∀ c, c < nc → ∀ i, i < 32 → bt (aM g h q nm 0 c) i = (wtB g nc nm c i && !A c i) := by
  intro c hc i hi
  show bt (if fell g c = true then 0 else wset g c nm &&& (q c ^^^ (-1))) i = _
  cases ef : fell g c with
  | true => rw [if_pos rfl, b_0]; simp [wtB, ef]
  | false =>
    rw [if_neg (by decide), b_and, b_xor, b_m1 i hi, wset_bt hn hi]
    by_cases e : i < nm
    · rw [hq c hc i e]
      simp only [wtB, ef, decide_eq_true hc, decide_eq_true e]
      cases wants g c i <;> cases A c i <;> rfl
    · simp [wtB, e]
def canM (h : LG) (x : Int32) (c nm : Nat) : Bool := !fell h c && decide (h 6 c = -1) && !decide (nxA h x c nm = -1)
def AskP (h : LG) (q : Nat → Int32) (nc nm : Nat) (v : Int32) : Prop := (v = -1 ∧ ∀ c, c < nc → canM h (q c) c nm = false) ∨ ∃ c, c < nc ∧ v = nI c ∧ canM h (q c) c nm = true
def askG (h : LG) (c m : Nat) : LG := if bears h m c = true ∧ (h 12 m = -1 ∨ rsat h c (h 12 m).toNatClampNeg = true) then sitG (leaveG h m) c m else h
def MT (g h : LG) (q : Nat → Int32) (nc nm : Nat) (A : Rl) : Prop := TI g nc nm (aM g h q nm) A ∧ (∀ c, c < nc → ∀ i, i < nm → bt (q c) i = A c i) ∧ (∀ j, j ≠ 6 → j ≠ 12 → h j = g j) ∧ (∀ c, nc ≤ c → h 6 c = g 6 c) ∧ ∀ m, nm ≤ m → h 12 m = g 12 m
theorem MT.row {g h : LG} {q : Nat → Int32} {nc nm j k : Nat} {A : Rl} (hM : MT g h q nc nm A) (h6 : j ≠ 6) (h12 : j ≠ 12) : h j k = g j k := by rw [hM.2.2.1 j h6 h12]
theorem MT.init {g : LG} {q : Nat → Int32} {nc nm : Nat} (hF : Fb g nc nm) (h6 : ∀ c, c < nc → g 6 c = -1) (h12 : ∀ m, m < nm → g 12 m = -1) (hq : ∀ c, c < nc → q c = 0) : MT g g q nc nm (fun _ _ => false) := by
  have hn := hF.1
  have hb : ∀ c, c < nc → ∀ i, i < nm → bt (q c) i = false := fun c hc i _ => by rw [hq c hc, b_0]
  refine ⟨⟨dun_nil, fun m hm => Or.inl ⟨h12 m hm, fun c q => Bool.noConfusion q⟩, ⟨fun m c hm hc e => ?_, fun c hc => Or.inl (h6 c hc)⟩, aM_lf hF.2.1 hb⟩, hb, fun _ _ _ => rfl, fun _ _ => rfl, fun _ _ => rfl⟩
  have e1 : (-1 : Int32) = nI c := (h12 m hm).symm.trans e
  exact absurd e1.symm (nI_ne_m1 (by omega))
theorem MT.nor12 {g h : LG} {q : Nat → Int32} {nc nm m : Nat} {A : Rl} (hF : Fb g nc nm) (hM : MT g h q nc nm A) (hm : m < nm) : nOr (h 12 m) 10 := (show nOr (h 12 m) nc from hM.1.nor hm).le hF.1
theorem MT.nor6 {g h : LG} {q : Nat → Int32} {nc nm c : Nat} {A : Rl} (hF : Fb g nc nm) (hM : MT g h q nc nm A) (hc : c < nc) : nOr (h 6 c) 10 := by
  have h20 := hF.2.1
  rcases hM.1.ef.2 c hc with e | ⟨m, hm, e, -⟩
  · exact Or.inl e
  · exact Or.inr ⟨m, by omega, e⟩
theorem wants_congr {g h : LG} (e : ∀ j, j ≠ 6 → j ≠ 12 → h j = g j) : wants h = wants g := by
  funext c m
  unfold wants
  rw [fit_congr (e 0 (by decide) (by decide)) (e 1 (by decide) (by decide)) (e 7 (by decide) (by decide)) (e 8 (by decide) (by decide))]
theorem rhad_congr {g h : LG} (e : ∀ j, j ≠ 6 → j ≠ 12 → h j = g j) : rhad h = rhad g := by
  funext c a b
  unfold rhad
  rw [fit_congr (e 0 (by decide) (by decide)) (e 1 (by decide) (by decide)) (e 7 (by decide) (by decide)) (e 8 (by decide) (by decide))]
theorem fell_congr {g h : LG} (e : ∀ j, j ≠ 6 → j ≠ 12 → h j = g j) : fell h = fell g := by
  funext c
  unfold fell
  rw [e 3 (by decide) (by decide)]
theorem rsat_congr {g h : LG} (e : ∀ j, j ≠ 6 → j ≠ 12 → h j = g j) : rsat h = rsat g := by
  funext a b
  unfold rsat
  rw [comf_congr (e 2 (by decide) (by decide)) (e 4 (by decide) (by decide))]
theorem bears_congr {g h : LG} (e : ∀ j, j ≠ 6 → j ≠ 12 → h j = g j) : bears h = bears g := by
  funext m c
  unfold bears
  rw [fell_congr e, comf_congr (e 2 (by decide) (by decide)) (e 4 (by decide) (by decide)), e 9 (by decide) (by decide)]
theorem nxA_congr {g h : LG} (e : ∀ j, j ≠ 6 → j ≠ 12 → h j = g j) {x : Int32} {c n : Nat} : nxA h x c n = nxA g x c n := by
  induction n with
  | zero => rfl
  | succ n ih => rw [nxA_s, nxA_s, wants_congr e, rhad_congr e, ih]
theorem MT.ok {g h : LG} {q : Nat → Int32} {nc nm c i : Nat} {A : Rl} (hF : Fb g nc nm) (hM : MT g h q nc nm A) (hc : c < nc) (hi : i < nm) : nxB (q c) i = !A c i := by
  have h20 := hF.2.1
  rw [nxB_bt (by omega), hM.2.1 c hc i hi]
theorem MT.ask {g h : LG} {q : Nat → Int32} {nc nm c : Nat} {A : Rl} (hF : Fb g nc nm) (hM : MT g h q nc nm A) (hc : c < nc) (hk : canM h (q c) c nm = true) : ∃ m, m < nm ∧ nxA h (q c) c nm = nI m ∧ canAskB (aM g h q nm) c = true ∧ askV g (aM g h q nm) nm c = nI m ∧ dask (ftN g) (wtB g nc nm) (bears g) (cfN g) A c m := by
  have h20 := hF.2.1
  unfold canM at hk
  rw [fell_congr hM.2.2.1, nxA_congr hM.2.2.1] at hk
  simp only [Bool.and_eq_true, Bool.not_eq_true', decide_eq_true_eq, decide_eq_false_iff_not] at hk
  obtain ⟨⟨k1, k2⟩, k3⟩ := hk
  rcases nxA_spec (x := q c) hF hc (Nat.le_refl nm) with ⟨q1, -⟩ | ⟨m, hm, hl, q1, q2⟩
  · exact absurd q1 k3
  · have hok : ∀ i, i < nm → wtB g nc nm c i = wants g c i := fun i hi => by simp [wtB, hc, hi, k1]
    have hcan : canAskB (aM g h q nm) c = true := by
      unfold canAskB
      have e0 : ¬ aM g h q nm 0 c = 0 := fun e => by
        have hb := hM.1.lf c hc m (by omega)
        rw [e, b_0, hok m hm] at hb
        rw [hM.ok hF hc hm] at hl
        rw [hl] at hb
        cases hb
      rw [show aM g h q nm 2 c = -1 from k2]
      simp [e0]
    obtain ⟨m', hm', hv, hd⟩ := hM.1.ask hF hc hcan
    have hl' : (wants g c m' && nxB (q c) m') = true := by
      rw [hM.ok hF hc hm', hd.2.1, ← hok m' hm', hd.1]; rfl
    have em : m' = m := Decidable.byContradiction fun hne => by
      have d1 := q2 m' hm' hl' hne
      have d2 := hd.2.2.1 m (by rw [hok m hm]; simp only [Bool.and_eq_true] at hl; exact hl.1) (by rw [hM.ok hF hc hm] at hl; simp only [Bool.and_eq_true, Bool.not_eq_true'] at hl; exact hl.2) (fun z => hne z.symm)
      exact dpf_as d1 d2
    subst em
    exact ⟨m', hm, by rw [nxA_congr hM.2.2.1]; exact q1, hcan, hv, hd⟩
theorem dEF_congr {nc nm : Nat} {p s p' s' : Nat → Int32} (h : dEF nc nm p s) (ep : ∀ m, m < nm → p' m = p m) (es : ∀ c, c < nc → s' c = s c) : dEF nc nm p' s' := by
  refine ⟨fun m c hm hc e => ?_, fun c hc => ?_⟩
  · rw [es c hc]; exact h.1 m c hm hc (by rw [← ep m hm]; exact e)
  · rw [es c hc]
    rcases h.2 c hc with e | ⟨m, hm, e1, e2⟩
    · exact Or.inl e
    · exact Or.inr ⟨m, hm, e1, by rw [ep m hm]; exact e2⟩
theorem move_12 {h : LG} {c m k : Nat} : sitG (leaveG h m) c m 12 k = if k = m then nI c else h 12 k := by
  unfold sitG
  rw [gu_r]
  by_cases e : k = m
  · simp [e]
  · rw [if_neg (fun z => e z.2), if_neg e, gu_ne (by omega), leaveG_12, if_neg e]
theorem move_6 {h : LG} {nc c m k : Nat} (hn : nc ≤ 10) (hp : nOr (h 12 m) nc) : sitG (leaveG h m) c m 6 k = if k = c then nI m else if k < nc ∧ h 12 m = nI k then -1 else h 6 k := by
  unfold sitG
  rw [gu_ne (by omega), gu_r]
  by_cases e : k = c
  · simp [e]
  · rw [if_neg (fun z => e z.2), if_neg e]
    unfold leaveG
    rw [gu_ne (by omega), gu_ne (by omega)]
    unfold unsit
    rcases hp with q | ⟨c0, h0, q⟩
    · rw [if_pos q, if_neg (fun z => nI_ne_m1 (show k < 2 ^ 31 by omega) (z.2.symm.trans q))]
    · rw [if_neg (by rw [q]; exact nI_ne_m1 (by omega)), q, nI_clamp (by omega), gu_r]
      by_cases e2 : k = c0
      · subst e2; simp [h0]
      · rw [if_neg (fun z => e2 z.2), if_neg (fun z => e2 (nI_inj (by omega) (by omega) z.2).symm)]
theorem MT.step {g h : LG} {q q' : Nat → Int32} {nc nm c m : Nat} {A : Rl} (hF : Fb g nc nm) (hM : MT g h q nc nm A) (h11 : ∀ m, m < nm → g 11 m = 0) (hc : c < nc) (hm : m < nm) (hk : canAskB (aM g h q nm) c = true) (hv : askV g (aM g h q nm) nm c = nI m) (hd : dask (ftN g) (wtB g nc nm) (bears g) (cfN g) A c m) (hq : ∀ c', q' c' = if c' = c then q c ||| (1 <<< (nI m &&& 31)) else q c') : MT g (askG h c m) q' nc nm (dadd A c m) := by
  have hn := hF.1
  have h20 := hF.2.1
  obtain ⟨hT, hB, hJ, h6, h12⟩ := hM
  have hq' : ∀ c', c' < nc → ∀ i, i < nm → bt (q' c') i = dadd A c m c' i := fun c' hc' i hi => by
    rw [hq c']
    by_cases e : c' = c
    · subst e
      rw [if_pos rfl, b_or, b_one (by omega) (by omega), hB c' hc' i hi]
      simp [dadd]
    · rw [if_neg e, hB c' hc' i hi]
      simp [dadd, e]
  have hnor : nOr (h 12 m) nc := hT.nor hm
  unfold askG
  rw [bears_congr hJ, rsat_congr hJ]
  by_cases e : bears g m c = true ∧ (h 12 m = -1 ∨ rsat g c (h 12 m).toNatClampNeg = true)
  · rw [if_pos e]
    have hs : aM g h q nm 3 m = -1 ∨ ∃ c0, c0 < nc ∧ aM g h q nm 3 m = nI c0 ∧ rsat g c c0 = true := by
      rcases hnor with w | ⟨c0, h0, w⟩
      · exact Or.inl w
      · refine Or.inr ⟨c0, h0, w, ?_⟩
        rcases e.2 with z | z
        · rw [w] at z; exact absurd z (nI_ne_m1 (by omega))
        · rw [w, nI_clamp (by omega)] at z; exact z
    have t := hT.move hF hc hm hk hv hd e.1 hs
    have e3 : ∀ k, aM g (sitG (leaveG h m) c m) q' nm 3 k = mvA (askA g (aM g h q nm) nm c) m c 3 k := fun k => by
      rw [mvA_3, askA_n (by decide)]
      exact move_12
    have e2 : ∀ k, k < nc → aM g (sitG (leaveG h m) c m) q' nm 2 k = mvA (askA g (aM g h q nm) nm c) m c 2 k := fun k hk => by
      rw [mvA_2 hn (by rw [askA_n (by decide)]; exact hnor) hk, askA_n (by decide), askA_n (by decide)]
      refine (move_6 hn hnor).trans ?_
      by_cases z1 : k = c
      · rw [if_pos z1, if_pos z1]
      · rw [if_neg z1, if_neg z1]
        show (if k < nc ∧ h 12 m = nI k then (-1 : Int32) else h 6 k) = if h 12 m = nI k then -1 else h 6 k
        by_cases z2 : h 12 m = nI k
        · rw [if_pos ⟨hk, z2⟩, if_pos z2]
        · rw [if_neg (fun z => z2 z.2), if_neg z2]
    refine ⟨⟨t.un, fun k hk => by rw [e3 k]; exact t.pl k hk, dEF_congr t.ef (fun k _ => e3 k) (fun k hk => e2 k hk), aM_lf h20 hq'⟩, hq', fun j j6 j12 => ?_, fun k hk => ?_, fun k hk => ?_⟩
    · by_cases j11 : j = 11
      · subst j11
        rw [← hJ 11 (by decide) (by decide)]
        funext k
        rw [sitG_off (by decide)]
        unfold leaveG
        rw [gu_r]
        by_cases z : k = m
        · subst z
          rw [if_pos ⟨rfl, rfl⟩, hJ 11 (by decide) (by decide), h11 k hm]
        · rw [if_neg (fun y => z y.2), gu_ne (by omega), unsit_off (by decide)]
      · rw [← hJ j j6 j12]
        funext k
        rw [sitG_off ⟨j6, j12⟩, leaveG_off ⟨j6, j11, j12⟩]
    · rw [move_6 hn hnor, if_neg (by omega), if_neg (by omega), h6 k hk]
    · rw [move_12, if_neg (by omega), h12 k hk]
  · rw [if_neg e]
    have hs : bears g m c = false ∨ ∃ c0, c0 < nc ∧ aM g h q nm 3 m = nI c0 ∧ rsat g c c0 = false := by
      cases eb : bears g m c with
      | false => exact Or.inl rfl
      | true =>
        refine Or.inr ?_
        rcases hnor with w | ⟨c0, h0, w⟩
        · exact absurd ⟨eb, Or.inl w⟩ e
        · refine ⟨c0, h0, w, ?_⟩
          cases er : rsat g c c0 with
          | false => rfl
          | true => exact absurd ⟨eb, Or.inr (by rw [w, nI_clamp (by omega)]; exact er)⟩ e
    have t := hT.stay hF hc hm hv hd hs
    have e3 : ∀ k, aM g h q' nm 3 k = askA g (aM g h q nm) nm c 3 k := fun k => by
      rw [askA_n (by decide)]; rfl
    have e2 : ∀ k, aM g h q' nm 2 k = askA g (aM g h q nm) nm c 2 k := fun k => by
      rw [askA_n (by decide)]; rfl
    exact ⟨⟨t.un, fun k hk => by rw [e3 k]; exact t.pl k hk, dEF_congr t.ef (fun k _ => e3 k) (fun k _ => e2 k), aM_lf h20 hq'⟩, hq', hJ, h6, h12⟩
theorem seatBy_6 {s : Nat → Int32} {g : LG} {n k : Nat} (h : ∀ c, c < n → ¬ s c = -1 ∨ g 6 c = -1) : seatBy s g n 6 k = if k < n then (if s k = -1 then -1 else nI (s k).toNatClampNeg) else g 6 k := by
  induction n with
  | zero => rfl
  | succ n ih =>
    have ih := ih (fun c hc => h c (by omega))
    unfold seatBy
    by_cases e : s n = -1
    · rw [if_pos e, ih]
      by_cases ek : k = n
      · subst ek
        rw [if_neg (by omega), if_pos (by omega), if_pos e]
        exact (h k (by omega)).resolve_left (fun z => z e)
      · by_cases q : k < n
        · rw [if_pos q, if_pos (show k < n + 1 by omega)]
        · rw [if_neg q, if_neg (by omega)]
    · rw [if_neg e]
      unfold sitG
      rw [gu_ne (by omega), gu_r]
      by_cases ek : k = n
      · subst ek
        rw [if_pos ⟨rfl, rfl⟩, if_pos (by omega), if_neg e]
      · rw [if_neg (fun z => ek z.2), ih]
        by_cases q : k < n
        · rw [if_pos q, if_pos (show k < n + 1 by omega)]
        · rw [if_neg q, if_neg (by omega)]
theorem seatBy_12n {s : Nat → Int32} {g : LG} {n k : Nat} (h : ∀ c, c < n → ¬ s c = -1 → ¬ (s c).toNatClampNeg = k) : seatBy s g n 12 k = g 12 k := by
  induction n with
  | zero => rfl
  | succ n ih =>
    have ih := ih (fun c hc => h c (by omega))
    unfold seatBy
    by_cases e : s n = -1
    · rw [if_pos e, ih]
    · rw [if_neg e]
      unfold sitG
      rw [gu_r, if_neg (fun z => h n (by omega) e z.2.symm), gu_ne (by omega), ih]
theorem seatBy_12 {s : Nat → Int32} {g : LG} {n k c : Nat} (hc : c < n) (hs : ¬ s c = -1 ∧ (s c).toNatClampNeg = k) (hi : ∀ c', c' < n → ¬ s c' = -1 → (s c').toNatClampNeg = k → c' = c) : seatBy s g n 12 k = nI c := by
  induction n with
  | zero => omega
  | succ n ih =>
    unfold seatBy
    by_cases e : s n = -1
    · rw [if_pos e]
      have : ¬ c = n := fun z => hs.1 (by rw [z]; exact e)
      exact ih (by omega) (fun c' hc' => hi c' (by omega))
    · rw [if_neg e]
      unfold sitG
      rw [gu_r]
      by_cases ec : c = n
      · subst ec
        rw [if_pos ⟨rfl, hs.2.symm⟩]
      · rw [if_neg (fun z => ec (hi n (by omega) e z.2.symm).symm), gu_ne (by omega)]
        exact ih (by omega) (fun c' hc' => hi c' (by omega))
theorem MT.done {g h : LG} {q : Nat → Int32} {nc nm : Nat} {A : Rl} (hF : Fb g nc nm) (hM : MT g h q nc nm A) (h6 : ∀ c, c < nc → g 6 c = -1) (h12 : ∀ m, m < nm → g 12 m = -1) (hno : ∀ c, c < nc → canM h (q c) c nm = false) : h = seatBy (matS g nc nm) g nc := by
  have hn := hF.1
  have h20 := hF.2.1
  have hst : ∀ c, c < nc → canAskB (aM g h q nm) c = false := fun c hc => by
    have hk := hno c hc
    unfold canM at hk
    rw [fell_congr hM.2.2.1, nxA_congr hM.2.2.1] at hk
    unfold canAskB
    show (decide (h 6 c = -1) && !decide (aM g h q nm 0 c = 0)) = false
    by_cases e6 : h 6 c = -1
    · have e0 : aM g h q nm 0 c = 0 := by
        refine b_ext fun i hi => ?_
        rw [b_0, hM.1.lf c hc i hi]
        cases ef : fell g c with
        | true => simp [wtB, ef]
        | false =>
          by_cases ei : i < nm
          · rw [ef, e6] at hk
            have hx : nxA g (q c) c nm = -1 := by simpa using hk
            rcases nxA_spec (x := q c) hF hc (Nat.le_refl nm) with ⟨-, q2⟩ | ⟨m, hm, -, q1, -⟩
            · have := q2 i ei
              rw [hM.ok hF hc ei] at this
              simp only [wtB, ef, decide_eq_true hc, decide_eq_true ei]
              revert this
              cases wants g c i <;> cases A c i <;> decide
            · rw [hx] at q1; exact absurd q1.symm (nI_ne_m1 (by omega))
          · simp [wtB, ei]
      rw [e0]; simp
    · simp [e6]
  have hD : DAr g nc nm (aM g h q nm) := ⟨A, hM.1, hM.1.stops hF hst⟩
  have hmat : ∀ c, c < nc → h 6 c = matS g nc nm c := fun c hc => matS_of (a := aM g h q nm) hF hD hc
  have hseat := hM.1.ef
  have hr6 : ∀ c, c < nc → matS g nc nm c = -1 ∨ ∃ m, m < nm ∧ matS g nc nm c = nI m ∧ h 12 m = nI c := fun c hc => by
    rw [← hmat c hc]; exact hseat.2 c hc
  funext j k
  by_cases j6 : j = 6
  · subst j6
    rw [seatBy_6 (fun c hc => Or.inr (h6 c hc))]
    by_cases e : k < nc
    · rw [if_pos e, hmat k e]
      rcases hr6 k e with w | ⟨m, hm, w, -⟩
      · rw [w]; rfl
      · rw [w, if_neg (nI_ne_m1 (by omega)), nI_clamp (by omega)]
    · rw [if_neg e, hM.2.2.2.1 k (by omega)]
  · by_cases j12 : j = 12
    · subst j12
      by_cases e : k < nm
      · rcases (show nOr (h 12 k) nc from hM.1.nor e) with w | ⟨c, hc, w⟩
        · rw [w, seatBy_12n, h12 k e]
          intro c hc hne he
          rcases hr6 c hc with y | ⟨m, hm, y, y2⟩
          · exact hne y
          · rw [y, nI_clamp (by omega)] at he
            subst he
            rw [w] at y2
            exact nI_ne_m1 (show c < 2 ^ 31 by omega) y2.symm
        · have y := hseat.1 k c e hc w
          have y : matS g nc nm c = nI k := (hmat c hc).symm.trans y
          rw [w]
          refine (seatBy_12 hc ⟨by rw [y]; exact nI_ne_m1 (by omega), by rw [y, nI_clamp (by omega)]⟩ (fun c' hc' hne he => ?_)).symm
          rcases hr6 c' hc' with y1 | ⟨m, hm, y1, y2⟩
          · exact absurd y1 hne
          · rw [y1, nI_clamp (by omega)] at he
            subst he
            exact nI_inj (by omega) (by omega) (y2.symm.trans w)
      · rw [hM.2.2.2.2 k (by omega), seatBy_12n]
        intro c hc hne he
        rcases hr6 c hc with y | ⟨m, hm, y, -⟩
        · exact hne y
        · rw [y, nI_clamp (by omega)] at he
          omega
    · rw [seatBy_off ⟨j6, j12⟩, hM.2.2.1 j j6 j12]
theorem seas6 {g : LG} {nc nm n : Nat} (hI : Inv g nc nm n) : ∀ c, c < nc → leaveN g nm 6 c = -1 := fun c hc => by
  have h10 := hI.c10
  have h1 := leaveN_inv hI (Nat.le_refl nm)
  rcases h1.ef.2 c hc with q | ⟨m, hm, -, q⟩
  · exact q
  · rw [leaveN_12, if_pos hm] at q; exact absurd q.symm (nI_ne_m1 (by omega))
theorem leaveN_11 {g : LG} {n k : Nat} : leaveN g n 11 k = if k < n then 0 else g 11 k := by
  induction n with
  | zero => rfl
  | succ n ih =>
    unfold leaveN leaveG
    rw [gu_r]
    by_cases e : k = n
    · rw [if_pos ⟨rfl, e⟩, if_pos (by omega)]
    · rw [if_neg (fun z => e z.2), gu_ne (by omega), unsit_off (by decide), ih]
      by_cases q : k < n
      · rw [if_pos q, if_pos (by omega)]
      · rw [if_neg q, if_neg (by omega)]
theorem seas11 {g : LG} {nc nm n : Nat} (_hI : Inv g nc nm n) : ∀ m, m < nm → leaveN g nm 11 m = 0 := fun m hm => by rw [leaveN_11, if_pos hm]
theorem bears_leave {g : LG} {n : Nat} : bears (leaveN g n) = bears g := by
  funext m c
  unfold bears fell comf
  rw [leaveN_off (by decide), leaveN_off (by decide), leaveN_off (by decide), leaveN_off (by decide)]
theorem fit_leave {g : LG} {n : Nat} : fit (leaveN g n) = fit g := fit_congr (funext fun _ => leaveN_off (by decide)) (funext fun _ => leaveN_off (by decide)) (funext fun _ => leaveN_off (by decide)) (funext fun _ => leaveN_off (by decide))
theorem comf_leave {g : LG} {n : Nat} : comf (leaveN g n) = comf g := comf_congr (funext fun _ => leaveN_off (by decide)) (funext fun _ => leaveN_off (by decide))
theorem DAr_leave {g : LG} {nc nm n : Nat} : DAr (leaveN g n) nc nm = DAr g nc nm := by
  have e1 : ftN (leaveN g n) = ftN g := by funext c m; unfold ftN; rw [fit_leave]
  have e2 : cfN (leaveN g n) = cfN g := by funext c; unfold cfN; rw [comf_leave]
  have e3 : wtB (leaveN g n) nc nm = wtB g nc nm := by funext c m; unfold wtB wants fell; rw [fit_leave, leaveN_off (by decide)]
  funext a
  unfold DAr TI
  rw [e1, e2, e3, bears_leave]
theorem matS_leave {g : LG} {nc nm n c : Nat} : matS (leaveN g n) nc nm c = matS g nc nm c := by
  unfold matS
  rw [DAr_leave]
theorem seasG_6 {g : LG} {nc nm n c : Nat} (hI : Inv g nc nm n) (hc : c < nc) : seasG g 6 c = matS g nc nm c := by
  have h20 := hI.m10
  have h1 := leaveN_inv hI (Nat.le_refl nm)
  unfold seasG
  rw [hI.cNe, hI.mNe, seatBy_6 (fun c hc => Or.inr (seas6 hI c hc)), if_pos hc, ← matS_leave (g := g) (n := nm)]
  rcases matS_seat h1.fb hc with q | ⟨m, hm, q, -⟩
  · rw [q]; rfl
  · rw [q, if_neg (nI_ne_m1 (by omega)), nI_clamp (by omega)]
def tW (b r k : Nat) : Prop := b = 20 ∨ b = 23 ∨ (b = 32 ∧ r = 3 ∧ k = k)
theorem would_fq {M M1 M2 M3 : Mem} {g1 g3 : LG} (h1 : gF (M1 23 0) = g1 ∧ ∀ b, b ≠ 23 → M1 b = M b) (h2 : Fq tA M1 M2) (h3 : gF (M3 20 0) = g3 ∧ ∀ b, b ≠ 20 → M3 b = M2 b) : Fq tW M M3 := fun b r k q => by
  rw [h3.2 b (fun e => q (Or.inl e)), h2 b r k (fun e => q (by rcases e with e | e; exact Or.inl e; exact Or.inr (Or.inr e))), h1.2 b (fun e => q (Or.inr (Or.inl e)))]
def rm_X11_nextAsked : Room := { frames := 3, cells := 0, slots := 0, locals := 70 }
theorem kv_X11_nextAsked : KV yX11_nextAsked RX11 cX11_nextAsked 5 (some .int) 1 := ⟨⟨gw_564, gw_565, gw_5, gw_566⟩, by decide +kernel⟩
set_option maxRecDepth 100000 in
set_option maxHeartbeats 4000000 in
theorem c_X11_nextAsked (E : ZE) (M : Mem) (g : LG) (hg : gF (M 20 0) = g) (nc nm : Nat) (hnc : g 14 7 = nI nc) (hnm : g 14 8 = nI nm) (hn : nc ≤ 10) (hn2 : nm ≤ 10) (c : Nat) (hc : c < 10) : Mt E yX11_nextAsked cX11_nextAsked 5 (some .int) rm_X11_nextAsked [.ref (za E 32 0), .int (nI c)] M (PI (nxA g (M 32 3 c) c nm) M) := by
  refine z_met (own := RX11) (lv := [(0, .ref (za E 32 0)), (1, .int (nI c))]) (by decide) rfl (Nat.le_of_ble_eq_true rfl) rfl (fun gg X Y => ?_)
  refine z_iconst X (pc := 0) (v := (-1)) dX11_nextAsked_0 (by decide) ?_
  refine z_istore_n X (pc := 1) (lv1 := [(2, .int ((-1))), (0, .ref (za E 32 0)), (1, .int (nI c))]) dX11_nextAsked_1 rfl (by decide) rfl ?_
  refine z_iconst X (pc := 2) (v := 0) dX11_nextAsked_2 (by decide) ?_
  refine z_istore_n X (pc := 3) (lv1 := [(3, .int 0), (2, .int ((-1))), (0, .ref (za E 32 0)), (1, .int (nI c))]) dX11_nextAsked_3 rfl (by decide) rfl ?_
  refine z_sub (lv' := [(3, .int (nI 0)), (2, .int (nxA g (M 32 3 c) c 0)), (0, .ref (za E 32 0)), (1, .int (nI c))]) [0, 1, 2, 3] rfl ?_
  refine z_loop (nm) 4 (σ := Unit) (fun i s => True) (fun i s => (M, [(3, .int (nI i)), (2, .int (nxA g (M 32 3 c) c i)), (0, .ref (za E 32 0)), (1, .int (nI c))])) ?_ 0 () (Nat.zero_le _) trivial
  intro i s hi4 hJ4 ih4
  show Z gg E M [(3, .int (nI i)), (2, .int (nxA g (M 32 3 c) c i)), (0, .ref (za E 32 0)), (1, .int (nI c))] 4 []
  refine z_iload_n X (pc := 4) 0 dX11_nextAsked_4 rfl rfl ?_
  refine z_aload_n X (pc := 5) 2 dX11_nextAsked_5 rfl rfl ?_
  refine z_get X (pc := 6) 0 zk_32_0 (zc_32_0 E _) rfl inlX11 (by decide) gw_138 rfl rfl dX11_nextAsked_6 ?_
  refine z_bipush X (pc := 9) (v := 8) dX11_nextAsked_9 (by decide) ?_
  refine z_iald X (pc := 11) (by decide) (show (8 : Int32) = nI 8 from rfl) (by decide) dX11_nextAsked_11 ?_
  refine z_top (y := (nI nm)) ((SF.bk (SF.rf hg) (by decide)).trans hnm) ?_
  refine z_nicmp_ge X (pc := 12) (a := i) (b := nm) (tgt := 71) dX11_nextAsked_12 (by decide) (by omega) (by omega) (fun c12 => ?_) (fun c12 => ?_)
  · refine z_iload_n X (pc := 71) 1 dX11_nextAsked_71 rfl rfl ?_
    exact z_pret X Y dX11_nextAsked_72 (by rw [show i = nm by omega]) rfl
  · refine z_aload_n X (pc := 15) 2 dX11_nextAsked_15 rfl rfl ?_
    refine z_iload_n X (pc := 16) 3 dX11_nextAsked_16 rfl rfl ?_
    refine z_iload_n X (pc := 17) 0 dX11_nextAsked_17 rfl rfl ?_
    refine z_callV X (pc := 18) (rest := []) kv_X11_wants (c_X11_wants E M g (And.left (SF.rf hg)) c i (show c < 10 by omega) (show i < 10 by omega)) zk_32_0 (zc_32_0 E _) rfl rfl gw_462 (by decide) rfl rfl (Nat.le_of_ble_eq_true rfl) dX11_nextAsked_18 (zk_i ?_)
    refine z_bif_eq X (pc := 21) (tgt := 41) dX11_nextAsked_21 (by decide) (fun c21 => ?_) (fun c21 => ?_)
    · refine z_iconst X (pc := 41) (v := 0) dX11_nextAsked_41 (by decide) ?_
      refine z_istore X (pc := 42) (lv1 := [(4, .int 0), (3, .int (nI i)), (2, .int (nxA g (M 32 3 c) c i)), (0, .ref (za E 32 0)), (1, .int (nI c))]) dX11_nextAsked_42 (by decide) rfl ?_
      refine z_iload X (pc := 44) 0 dX11_nextAsked_44 rfl ?_
      refine z_if_eq X (pc := 46) (tgt := 63) dX11_nextAsked_46 (by decide) (fun c46 => ?_) (fun c46 => ?_)
      · refine z_iload_n X (pc := 63) 2 dX11_nextAsked_63 rfl rfl ?_
        refine z_istore_n X (pc := 64) (lv1 := [(2, .int (nxA g (M 32 3 c) c i)), (4, .int 0), (3, .int (nI i)), (0, .ref (za E 32 0)), (1, .int (nI c))]) dX11_nextAsked_64 rfl (by decide) rfl ?_
        refine z_iinc X (pc := 65) (v := (nI (i + 1))) (lv1 := [(3, .int (nI (i + 1))), (2, .int (nxA g (M 32 3 c) c i)), (4, .int 0), (0, .ref (za E 32 0)), (1, .int (nI c))]) 2 dX11_nextAsked_65 rfl (nI_1 _) (by decide) rfl ?_
        refine z_goto X (pc := 68) (tgt := 4) dX11_nextAsked_68 (by decide) ?_
        refine z_sub (lv' := [(3, .int (nI (i + 1))), (2, .int (nxA g (M 32 3 c) c i)), (0, .ref (za E 32 0)), (1, .int (nI c))]) [0, 1, 3, 4] rfl ?_
        refine z_eq (lv' := [(3, .int (nI (i + 1))), (2, .int (nxA g (M 32 3 c) c (i + 1))), (0, .ref (za E 32 0)), (1, .int (nI c))]) (by simp [nxA, nxB, c12, c21, c46]) rfl ?_
        exact ih4 () (by omega) trivial
      · exact absurd (by decide) c46
    · refine z_aload_n X (pc := 24) 2 dX11_nextAsked_24 rfl rfl ?_
      refine z_get X (pc := 25) 7 zk_32_0 (zc_32_0 E _) rfl inlX11 (by decide) gw_146 rfl rfl dX11_nextAsked_25 ?_
      refine z_iload_n X (pc := 28) 3 dX11_nextAsked_28 rfl rfl ?_
      refine z_iald X (pc := 29) (by decide) rfl (show c < zn 32 3 by (first | exact (show c < 10 by omega) | exact (show c < 3 by omega))) dX11_nextAsked_29 ?_
      refine z_iload_n X (pc := 30) 0 dX11_nextAsked_30 rfl rfl ?_
      refine z_ishr X (pc := 31) dX11_nextAsked_31 ?_
      refine z_iconst X (pc := 32) (v := 1) dX11_nextAsked_32 (by decide) ?_
      refine z_iand X (pc := 33) dX11_nextAsked_33 ?_
      refine z_if_ne X (pc := 34) (tgt := 41) dX11_nextAsked_34 (by decide) (fun c34 => ?_) (fun c34 => ?_)
      · refine z_iconst X (pc := 41) (v := 0) dX11_nextAsked_41 (by decide) ?_
        refine z_istore X (pc := 42) (lv1 := [(4, .int 0), (3, .int (nI i)), (2, .int (nxA g (M 32 3 c) c i)), (0, .ref (za E 32 0)), (1, .int (nI c))]) dX11_nextAsked_42 (by decide) rfl ?_
        refine z_iload X (pc := 44) 0 dX11_nextAsked_44 rfl ?_
        refine z_if_eq X (pc := 46) (tgt := 63) dX11_nextAsked_46 (by decide) (fun c46 => ?_) (fun c46 => ?_)
        · refine z_iload_n X (pc := 63) 2 dX11_nextAsked_63 rfl rfl ?_
          refine z_istore_n X (pc := 64) (lv1 := [(2, .int (nxA g (M 32 3 c) c i)), (4, .int 0), (3, .int (nI i)), (0, .ref (za E 32 0)), (1, .int (nI c))]) dX11_nextAsked_64 rfl (by decide) rfl ?_
          refine z_iinc X (pc := 65) (v := (nI (i + 1))) (lv1 := [(3, .int (nI (i + 1))), (2, .int (nxA g (M 32 3 c) c i)), (4, .int 0), (0, .ref (za E 32 0)), (1, .int (nI c))]) 2 dX11_nextAsked_65 rfl (nI_1 _) (by decide) rfl ?_
          refine z_goto X (pc := 68) (tgt := 4) dX11_nextAsked_68 (by decide) ?_
          refine z_sub (lv' := [(3, .int (nI (i + 1))), (2, .int (nxA g (M 32 3 c) c i)), (0, .ref (za E 32 0)), (1, .int (nI c))]) [0, 1, 3, 4] rfl ?_
          refine z_eq (lv' := [(3, .int (nI (i + 1))), (2, .int (nxA g (M 32 3 c) c (i + 1))), (0, .ref (za E 32 0)), (1, .int (nI c))]) (by simp [nxA, nxB, c12, c21, c34, c46]) rfl ?_
          exact ih4 () (by omega) trivial
        · exact absurd (by decide) c46
      · refine z_iconst X (pc := 37) (v := 1) dX11_nextAsked_37 (by decide) ?_
        refine z_goto X (pc := 38) (tgt := 42) dX11_nextAsked_38 (by decide) ?_
        refine z_istore X (pc := 42) (lv1 := [(4, .int 1), (3, .int (nI i)), (2, .int (nxA g (M 32 3 c) c i)), (0, .ref (za E 32 0)), (1, .int (nI c))]) dX11_nextAsked_42 (by decide) rfl ?_
        refine z_iload X (pc := 44) 0 dX11_nextAsked_44 rfl ?_
        refine z_if_eq X (pc := 46) (tgt := 63) dX11_nextAsked_46 (by decide) (fun c46 => ?_) (fun c46 => ?_)
        · exact absurd c46 (by decide)
        · refine z_aload_n X (pc := 49) 3 dX11_nextAsked_49 rfl rfl ?_
          refine z_iload_n X (pc := 50) 4 dX11_nextAsked_50 rfl rfl ?_
          refine z_iload_n X (pc := 51) 1 dX11_nextAsked_51 rfl rfl ?_
          refine z_iload_n X (pc := 52) 2 dX11_nextAsked_52 rfl rfl ?_
          rcases (show nOr (nxA g (M 32 3 c) c i) 10 from (nxA_no.le (by omega))) with hp53 | ⟨k53, hk53, hp53⟩
          · refine z_top (y := ((-1))) hp53 ?_
            refine z_callV X (pc := 53) (rest := []) kv_X11_isRatherHad (c_X11_isRatherHad_no E M g (And.left (SF.rf hg)) c i (show c < 10 by omega) (show i < 10 by omega)) zk_32_0 (zc_32_0 E _) rfl rfl gw_567 (by decide) rfl rfl (Nat.le_of_ble_eq_true rfl) dX11_nextAsked_53 (zk_i ?_)
            refine z_if_eq X (pc := 56) (tgt := 63) dX11_nextAsked_56 (by decide) (fun c56 => ?_) (fun c56 => ?_)
            · exact absurd c56 (by decide)
            · refine z_iload_n X (pc := 59) 1 dX11_nextAsked_59 rfl rfl ?_
              refine z_goto X (pc := 60) (tgt := 64) dX11_nextAsked_60 (by decide) ?_
              refine z_istore_n X (pc := 64) (lv1 := [(2, .int (nI i)), (4, .int 1), (3, .int (nI i)), (0, .ref (za E 32 0)), (1, .int (nI c))]) dX11_nextAsked_64 rfl (by decide) rfl ?_
              refine z_iinc X (pc := 65) (v := (nI (i + 1))) (lv1 := [(3, .int (nI (i + 1))), (2, .int (nI i)), (4, .int 1), (0, .ref (za E 32 0)), (1, .int (nI c))]) 2 dX11_nextAsked_65 rfl (nI_1 _) (by decide) rfl ?_
              refine z_goto X (pc := 68) (tgt := 4) dX11_nextAsked_68 (by decide) ?_
              refine z_sub (lv' := [(3, .int (nI (i + 1))), (2, .int (nI i)), (0, .ref (za E 32 0)), (1, .int (nI c))]) [0, 1, 3, 4] rfl ?_
              refine z_eq (lv' := [(3, .int (nI (i + 1))), (2, .int (nxA g (M 32 3 c) c (i + 1))), (0, .ref (za E 32 0)), (1, .int (nI c))]) (by simp [nxA, nxB, c12, c21, c34, c46, hp53, c56]) rfl ?_
              exact ih4 () (by omega) trivial
          · refine z_top (y := (nI k53)) hp53 ?_
            refine z_callV X (pc := 53) (rest := []) kv_X11_isRatherHad (c_X11_isRatherHad E M g (And.left (SF.rf hg)) c i k53 (show c < 10 by omega) (show i < 10 by omega) (show k53 < 10 by omega)) zk_32_0 (zc_32_0 E _) rfl rfl gw_567 (by decide) rfl rfl (Nat.le_of_ble_eq_true rfl) dX11_nextAsked_53 (zk_i ?_)
            refine z_bif_eq X (pc := 56) (tgt := 63) dX11_nextAsked_56 (by decide) (fun c56 => ?_) (fun c56 => ?_)
            · refine z_iload_n X (pc := 63) 2 dX11_nextAsked_63 rfl rfl ?_
              refine z_istore_n X (pc := 64) (lv1 := [(2, .int (nxA g (M 32 3 c) c i)), (4, .int 1), (3, .int (nI i)), (0, .ref (za E 32 0)), (1, .int (nI c))]) dX11_nextAsked_64 rfl (by decide) rfl ?_
              refine z_iinc X (pc := 65) (v := (nI (i + 1))) (lv1 := [(3, .int (nI (i + 1))), (2, .int (nxA g (M 32 3 c) c i)), (4, .int 1), (0, .ref (za E 32 0)), (1, .int (nI c))]) 2 dX11_nextAsked_65 rfl (nI_1 _) (by decide) rfl ?_
              refine z_goto X (pc := 68) (tgt := 4) dX11_nextAsked_68 (by decide) ?_
              refine z_sub (lv' := [(3, .int (nI (i + 1))), (2, .int (nxA g (M 32 3 c) c i)), (0, .ref (za E 32 0)), (1, .int (nI c))]) [0, 1, 3, 4] rfl ?_
              refine z_eq (lv' := [(3, .int (nI (i + 1))), (2, .int (nxA g (M 32 3 c) c (i + 1))), (0, .ref (za E 32 0)), (1, .int (nI c))]) (by simp [nxA, nxB, c12, c21, c34, c46, hp53, nI_ne_m1 (show k53 < 2 ^ 31 by omega), nI_clamp (show k53 < 2 ^ 31 by omega), c56]) rfl ?_
              exact ih4 () (by omega) trivial
            · refine z_iload_n X (pc := 59) 1 dX11_nextAsked_59 rfl rfl ?_
              refine z_goto X (pc := 60) (tgt := 64) dX11_nextAsked_60 (by decide) ?_
              refine z_istore_n X (pc := 64) (lv1 := [(2, .int (nI i)), (4, .int 1), (3, .int (nI i)), (0, .ref (za E 32 0)), (1, .int (nI c))]) dX11_nextAsked_64 rfl (by decide) rfl ?_
              refine z_iinc X (pc := 65) (v := (nI (i + 1))) (lv1 := [(3, .int (nI (i + 1))), (2, .int (nI i)), (4, .int 1), (0, .ref (za E 32 0)), (1, .int (nI c))]) 2 dX11_nextAsked_65 rfl (nI_1 _) (by decide) rfl ?_
              refine z_goto X (pc := 68) (tgt := 4) dX11_nextAsked_68 (by decide) ?_
              refine z_sub (lv' := [(3, .int (nI (i + 1))), (2, .int (nI i)), (0, .ref (za E 32 0)), (1, .int (nI c))]) [0, 1, 3, 4] rfl ?_
              refine z_eq (lv' := [(3, .int (nI (i + 1))), (2, .int (nxA g (M 32 3 c) c (i + 1))), (0, .ref (za E 32 0)), (1, .int (nI c))]) (by simp [nxA, nxB, c12, c21, c34, c46, hp53, nI_ne_m1 (show k53 < 2 ^ 31 by omega), nI_clamp (show k53 < 2 ^ 31 by omega), c56]) rfl ?_
              exact ih4 () (by omega) trivial

def rm_X11_ask : Room := { frames := 3, cells := 0, slots := 0, locals := 66 }
theorem kv_X11_ask : KV yX11_ask RX11 cX11_ask 4 none 2 := ⟨⟨gw_572, gw_573, gw_5, gw_574⟩, by decide +kernel⟩
set_option maxRecDepth 100000 in
set_option maxHeartbeats 4000000 in
theorem c_X11_ask (E : ZE) (M : Mem) (g : LG) (hg : gF (M 20 0) = g) (c m : Nat) (hc : c < 10) (hm : m < 10) (hp : nOr (g 12 m) 10) : Mt E yX11_ask cX11_ask 4 none rm_X11_ask [.ref (za E 32 0), .int (nI c), .int (nI m)] M (RV (SF (up3 M 32 3 c (M 32 3 c ||| (1 <<< (nI m &&& 31)))) (askG g c m))) := by
  refine z_met (own := RX11) (lv := [(0, .ref (za E 32 0)), (1, .int (nI c)), (2, .int (nI m))]) (by decide) rfl (Nat.le_of_ble_eq_true rfl) rfl (fun gg X Y => ?_)
  refine z_aload_n X (pc := 0) 0 dX11_ask_0 rfl rfl ?_
  refine z_get X (pc := 1) 7 zk_32_0 (zc_32_0 E _) rfl inlX11 (by decide) gw_146 rfl rfl dX11_ask_1 ?_
  refine z_iload_n X (pc := 4) 1 dX11_ask_4 rfl rfl ?_
  refine z_dup2 X (pc := 5) dX11_ask_5 rfl rfl ?_
  refine z_iald X (pc := 6) (by decide) rfl (show c < zn 32 3 by (first | exact (show c < 10 by omega) | exact (show c < 3 by omega))) dX11_ask_6 ?_
  refine z_iconst X (pc := 7) (v := 1) dX11_ask_7 (by decide) ?_
  refine z_iload_n X (pc := 8) 2 dX11_ask_8 rfl rfl ?_
  refine z_ishl X (pc := 9) dX11_ask_9 ?_
  refine z_ior X (pc := 10) dX11_ask_10 ?_
  refine z_iast X (pc := 11) (by decide) rfl (show c < zn 32 3 by (first | exact (show c < 10 by omega) | exact (show c < 3 by omega))) dX11_ask_11 ?_
  refine z_aload_n X (pc := 12) 0 dX11_ask_12 rfl rfl ?_
  refine z_iload_n X (pc := 13) 2 dX11_ask_13 rfl rfl ?_
  refine z_iconst X (pc := 14) (v := 5) dX11_ask_14 (by decide) ?_
  refine z_callV X (pc := 15) (rest := []) kv_X11_of (c_X11_of E (up3 M 32 3 c ((M 32 3 c) ||| (1 <<< ((nI m) &&& 31)))) g (And.left (SF.rf (M := (up3 M 32 3 c ((M 32 3 c) ||| (1 <<< ((nI m) &&& 31))))) (g := g) (by rw [up3_off (by decide)]; exact hg))) m 5 (show m < 10 by omega) (by decide)) zk_32_0 (zc_32_0 E _) rfl rfl gw_354 (by decide) rfl rfl (Nat.le_of_ble_eq_true rfl) dX11_ask_15 (zk_i ?_)
  refine z_istore_n X (pc := 18) (lv1 := [(3, .int (g 12 m)), (0, .ref (za E 32 0)), (1, .int (nI c)), (2, .int (nI m))]) dX11_ask_18 rfl (by decide) rfl ?_
  refine z_aload_n X (pc := 19) 1 dX11_ask_19 rfl rfl ?_
  refine z_iload_n X (pc := 20) 3 dX11_ask_20 rfl rfl ?_
  refine z_iload_n X (pc := 21) 2 dX11_ask_21 rfl rfl ?_
  refine z_callV X (pc := 22) (rest := []) kv_X11_bears (c_X11_bears E (up3 M 32 3 c ((M 32 3 c) ||| (1 <<< ((nI m) &&& 31)))) g (And.left (SF.rf (M := (up3 M 32 3 c ((M 32 3 c) ||| (1 <<< ((nI m) &&& 31))))) (g := g) (by rw [up3_off (by decide)]; exact hg))) m c (show m < 10 by omega) (show c < 10 by omega)) zk_32_0 (zc_32_0 E _) rfl rfl gw_466 (by decide) rfl rfl (Nat.le_of_ble_eq_true rfl) dX11_ask_22 (zk_i ?_)
  refine z_bif_eq X (pc := 25) (tgt := 48) dX11_ask_25 (by decide) (fun c25 => ?_) (fun c25 => ?_)
  · exact z_vret X Y dX11_ask_48 ⟨rfl, by have h := (SF.rf (M := (up3 M 32 3 c ((M 32 3 c) ||| (1 <<< ((nI m) &&& 31))))) (g := g) (by rw [up3_off (by decide)]; exact hg)); simpa [askG, c25] using h⟩
  · refine z_aload_n X (pc := 28) 1 dX11_ask_28 rfl rfl ?_
    refine z_iload_n X (pc := 29) 2 dX11_ask_29 rfl rfl ?_
    refine z_iload_n X (pc := 30) 0 dX11_ask_30 rfl rfl ?_
    rcases (show nOr (g 12 m) 10 from hp) with hp31 | ⟨k31, hk31, hp31⟩
    · refine z_top (y := ((-1))) hp31 ?_
      refine z_callV X (pc := 31) (rest := []) kv_X11_isRatherSatOn (c_X11_isRatherSatOn_no E (up3 M 32 3 c ((M 32 3 c) ||| (1 <<< ((nI m) &&& 31)))) g (And.left (SF.rf (M := (up3 M 32 3 c ((M 32 3 c) ||| (1 <<< ((nI m) &&& 31))))) (g := g) (by rw [up3_off (by decide)]; exact hg))) c (show c < 10 by omega)) zk_32_0 (zc_32_0 E _) rfl rfl gw_575 (by decide) rfl rfl (Nat.le_of_ble_eq_true rfl) dX11_ask_31 (zk_i ?_)
      refine z_if_eq X (pc := 34) (tgt := 48) dX11_ask_34 (by decide) (fun c34 => ?_) (fun c34 => ?_)
      · exact absurd c34 (by decide)
      · refine z_aload_n X (pc := 37) 1 dX11_ask_37 rfl rfl ?_
        refine z_iload_n X (pc := 38) 3 dX11_ask_38 rfl rfl ?_
        refine z_callV X (pc := 39) (rest := []) kv_X11_standUp (c_X11_standUp E (up3 M 32 3 c ((M 32 3 c) ||| (1 <<< ((nI m) &&& 31)))) g (And.left (SF.rf (M := (up3 M 32 3 c ((M 32 3 c) ||| (1 <<< ((nI m) &&& 31))))) (g := g) (by rw [up3_off (by decide)]; exact hg))) m (show m < 10 by omega) hp) zk_32_0 (zc_32_0 E _) rfl rfl gw_495 (by decide) rfl rfl (Nat.le_of_ble_eq_true rfl) dX11_ask_39 (zk_rv (fun M_1 hS_2 => ?_))
        refine z_aload_n X (pc := 42) 1 dX11_ask_42 rfl rfl ?_
        refine z_iload_n X (pc := 43) 3 dX11_ask_43 rfl rfl ?_
        refine z_iload_n X (pc := 44) 2 dX11_ask_44 rfl rfl ?_
        refine z_callV X (pc := 45) (rest := []) kv_X11_sit (c_X11_sit E M_1 (leaveG g m) (And.left ((SF.rf (M := (up3 M 32 3 c ((M 32 3 c) ||| (1 <<< ((nI m) &&& 31))))) (g := g) (by rw [up3_off (by decide)]; exact hg)).trans hS_2)) m c (show m < 10 by omega) (show c < 10 by omega)) zk_32_0 (zc_32_0 E _) rfl rfl gw_470 (by decide) rfl rfl (Nat.le_of_ble_eq_true rfl) dX11_ask_45 (zk_rv (fun M_3 hS_4 => ?_))
        exact z_vret X Y dX11_ask_48 ⟨rfl, by have h := (((SF.rf (M := (up3 M 32 3 c ((M 32 3 c) ||| (1 <<< ((nI m) &&& 31))))) (g := g) (by rw [up3_off (by decide)]; exact hg)).trans hS_2).trans hS_4); simpa [askG, c25, hp31, c34] using h⟩
    · refine z_top (y := (nI k31)) hp31 ?_
      refine z_callV X (pc := 31) (rest := []) kv_X11_isRatherSatOn (c_X11_isRatherSatOn E (up3 M 32 3 c ((M 32 3 c) ||| (1 <<< ((nI m) &&& 31)))) g (And.left (SF.rf (M := (up3 M 32 3 c ((M 32 3 c) ||| (1 <<< ((nI m) &&& 31))))) (g := g) (by rw [up3_off (by decide)]; exact hg))) c k31 (show c < 10 by omega) (show k31 < 10 by omega)) zk_32_0 (zc_32_0 E _) rfl rfl gw_575 (by decide) rfl rfl (Nat.le_of_ble_eq_true rfl) dX11_ask_31 (zk_i ?_)
      refine z_bif_eq X (pc := 34) (tgt := 48) dX11_ask_34 (by decide) (fun c34 => ?_) (fun c34 => ?_)
      · exact z_vret X Y dX11_ask_48 ⟨rfl, by have h := (SF.rf (M := (up3 M 32 3 c ((M 32 3 c) ||| (1 <<< ((nI m) &&& 31))))) (g := g) (by rw [up3_off (by decide)]; exact hg)); simpa [askG, c25, hp31, nI_ne_m1 (show k31 < 2 ^ 31 by omega), nI_clamp (show k31 < 2 ^ 31 by omega), c34] using h⟩
      · refine z_aload_n X (pc := 37) 1 dX11_ask_37 rfl rfl ?_
        refine z_iload_n X (pc := 38) 3 dX11_ask_38 rfl rfl ?_
        refine z_callV X (pc := 39) (rest := []) kv_X11_standUp (c_X11_standUp E (up3 M 32 3 c ((M 32 3 c) ||| (1 <<< ((nI m) &&& 31)))) g (And.left (SF.rf (M := (up3 M 32 3 c ((M 32 3 c) ||| (1 <<< ((nI m) &&& 31))))) (g := g) (by rw [up3_off (by decide)]; exact hg))) m (show m < 10 by omega) hp) zk_32_0 (zc_32_0 E _) rfl rfl gw_495 (by decide) rfl rfl (Nat.le_of_ble_eq_true rfl) dX11_ask_39 (zk_rv (fun M_5 hS_6 => ?_))
        refine z_aload_n X (pc := 42) 1 dX11_ask_42 rfl rfl ?_
        refine z_iload_n X (pc := 43) 3 dX11_ask_43 rfl rfl ?_
        refine z_iload_n X (pc := 44) 2 dX11_ask_44 rfl rfl ?_
        refine z_callV X (pc := 45) (rest := []) kv_X11_sit (c_X11_sit E M_5 (leaveG g m) (And.left ((SF.rf (M := (up3 M 32 3 c ((M 32 3 c) ||| (1 <<< ((nI m) &&& 31))))) (g := g) (by rw [up3_off (by decide)]; exact hg)).trans hS_6)) m c (show m < 10 by omega) (show c < 10 by omega)) zk_32_0 (zc_32_0 E _) rfl rfl gw_470 (by decide) rfl rfl (Nat.le_of_ble_eq_true rfl) dX11_ask_45 (zk_rv (fun M_7 hS_8 => ?_))
        exact z_vret X Y dX11_ask_48 ⟨rfl, by have h := (((SF.rf (M := (up3 M 32 3 c ((M 32 3 c) ||| (1 <<< ((nI m) &&& 31))))) (g := g) (by rw [up3_off (by decide)]; exact hg)).trans hS_6).trans hS_8); simpa [askG, c25, hp31, nI_ne_m1 (show k31 < 2 ^ 31 by omega), nI_clamp (show k31 < 2 ^ 31 by omega), c34] using h⟩

def rm_X11_askingChair : Room := { frames := 4, cells := 0, slots := 0, locals := 94 }
theorem kv_X11_askingChair : KV yX11_askingChair RX11 cX11_askingChair 2 (some .int) 0 := ⟨⟨gw_560, gw_561, gw_5, gw_562⟩, by decide +kernel⟩
set_option maxRecDepth 100000 in
set_option maxHeartbeats 4000000 in
theorem c_X11_askingChair (E : ZE) (M : Mem) (g : LG) (hg : gF (M 20 0) = g) (nc nm : Nat) (hnc : g 14 7 = nI nc) (hnm : g 14 8 = nI nm) (hn : nc ≤ 10) (hn2 : nm ≤ 10) (h6 : ∀ c, c < nc → nOr (g 6 c) 10) : Mt E yX11_askingChair cX11_askingChair 2 (some .int) rm_X11_askingChair [.ref (za E 32 0)] M (RI (fun v M1 => M = M1 ∧ AskP g (fun c => M 32 3 c) nc nm v)) := by
  refine z_met (own := RX11) (lv := [(0, .ref (za E 32 0))]) (by decide) rfl (Nat.le_of_ble_eq_true rfl) rfl (fun gg X Y => ?_)
  refine z_iconst X (pc := 0) (v := 0) dX11_askingChair_0 (by decide) ?_
  refine z_istore_n X (pc := 1) (lv1 := [(1, .int 0), (0, .ref (za E 32 0))]) dX11_askingChair_1 rfl (by decide) rfl ?_
  refine z_sub (lv' := [(1, .int (nI 0)), (0, .ref (za E 32 0))]) [0, 1] rfl ?_
  refine z_loop (nc) 2 (σ := Unit) (fun i s => ∀ c, c < i → canM g (M 32 3 c) c nm = false) (fun i s => (M, [(1, .int (nI i)), (0, .ref (za E 32 0))])) ?_ 0 () (Nat.zero_le _) (fun c hc => absurd hc (Nat.not_lt_zero c))
  intro i s hi2 hJ2 ih2
  show Z gg E M [(1, .int (nI i)), (0, .ref (za E 32 0))] 2 []
  refine z_iload_n X (pc := 2) 0 dX11_askingChair_2 rfl rfl ?_
  refine z_aload_n X (pc := 3) 1 dX11_askingChair_3 rfl rfl ?_
  refine z_get X (pc := 4) 0 zk_32_0 (zc_32_0 E _) rfl inlX11 (by decide) gw_138 rfl rfl dX11_askingChair_4 ?_
  refine z_bipush X (pc := 7) (v := 7) dX11_askingChair_7 (by decide) ?_
  refine z_iald X (pc := 9) (by decide) (show (7 : Int32) = nI 7 from rfl) (by decide) dX11_askingChair_9 ?_
  refine z_top (y := (nI nc)) ((SF.bk (SF.rf hg) (by decide)).trans hnc) ?_
  refine z_nicmp_ge X (pc := 10) (a := i) (b := nc) (tgt := 47) dX11_askingChair_10 (by decide) (by omega) (by omega) (fun c10 => ?_) (fun c10 => ?_)
  · refine z_iconst X (pc := 47) (v := (-1)) dX11_askingChair_47 (by decide) ?_
    exact z_iret X Y dX11_askingChair_48 ⟨_, rfl, rfl, Or.inl ⟨rfl, fun c hc => hJ2 c (by omega)⟩⟩
  · refine z_aload_n X (pc := 13) 1 dX11_askingChair_13 rfl rfl ?_
    refine z_iload_n X (pc := 14) 0 dX11_askingChair_14 rfl rfl ?_
    refine z_callV X (pc := 15) (rest := []) kv_X11_hasFallen (c_X11_hasFallen E M g (And.left (SF.rf hg)) i (show i < 10 by omega)) zk_32_0 (zc_32_0 E _) rfl rfl gw_450 (by decide) rfl rfl (Nat.le_of_ble_eq_true rfl) dX11_askingChair_15 (zk_i ?_)
    refine z_bif_ne X (pc := 18) (tgt := 41) dX11_askingChair_18 (by decide) (fun c18 => ?_) (fun c18 => ?_)
    · refine z_iinc X (pc := 41) (v := (nI (i + 1))) (lv1 := [(1, .int (nI (i + 1))), (0, .ref (za E 32 0))]) 0 dX11_askingChair_41 rfl (nI_1 _) (by decide) rfl ?_
      refine z_goto X (pc := 44) (tgt := 2) dX11_askingChair_44 (by decide) ?_
      refine z_sub (lv' := [(1, .int (nI (i + 1))), (0, .ref (za E 32 0))]) [0, 1] rfl ?_
      exact ih2 () (by omega) (fun c hc => by rcases Nat.lt_or_ge c i with e | e; exact hJ2 c e; rw [show c = i by omega]; simp [canM, c10, c18])
    · refine z_aload_n X (pc := 21) 1 dX11_askingChair_21 rfl rfl ?_
      refine z_iload_n X (pc := 22) 0 dX11_askingChair_22 rfl rfl ?_
      refine z_bipush X (pc := 23) (v := 6) dX11_askingChair_23 (by decide) ?_
      refine z_callV X (pc := 25) (rest := []) kv_X11_ofChair (c_X11_ofChair E M g (And.left (SF.rf hg)) i 6 (show i < 10 by omega) (by decide)) zk_32_0 (zc_32_0 E _) rfl rfl gw_323 (by decide) rfl rfl (Nat.le_of_ble_eq_true rfl) dX11_askingChair_25 (zk_i ?_)
      rcases (show nOr (g 6 i) 10 from (h6 i (by omega))) with hp28 | ⟨k28, hk28, hp28⟩
      · refine z_top (y := ((-1))) hp28 ?_
        refine z_if_ge X (pc := 28) (tgt := 41) dX11_askingChair_28 (by decide) (fun c28 => ?_) (fun c28 => ?_)
        · exact absurd c28 (by decide)
        · refine z_aload_n X (pc := 31) 1 dX11_askingChair_31 rfl rfl ?_
          refine z_iload_n X (pc := 32) 0 dX11_askingChair_32 rfl rfl ?_
          refine z_callV X (pc := 33) (rest := []) kv_X11_nextAsked (c_X11_nextAsked E M g (And.left (SF.rf hg)) nc nm hnc hnm hn hn2 i (by omega)) zk_32_0 (zc_32_0 E _) rfl rfl gw_563 (by decide) rfl rfl (Nat.le_of_ble_eq_true rfl) dX11_askingChair_33 (zk_i ?_)
          rcases (show nOr (nxA g (M 32 3 i) i nm) 10 from (nxA_no.le (by omega))) with hp36 | ⟨k36, hk36, hp36⟩
          · refine z_top (y := ((-1))) hp36 ?_
            refine z_if_lt X (pc := 36) (tgt := 41) dX11_askingChair_36 (by decide) (fun c36 => ?_) (fun c36 => ?_)
            · refine z_iinc X (pc := 41) (v := (nI (i + 1))) (lv1 := [(1, .int (nI (i + 1))), (0, .ref (za E 32 0))]) 0 dX11_askingChair_41 rfl (nI_1 _) (by decide) rfl ?_
              refine z_goto X (pc := 44) (tgt := 2) dX11_askingChair_44 (by decide) ?_
              refine z_sub (lv' := [(1, .int (nI (i + 1))), (0, .ref (za E 32 0))]) [0, 1] rfl ?_
              exact ih2 () (by omega) (fun c hc => by rcases Nat.lt_or_ge c i with e | e; exact hJ2 c e; rw [show c = i by omega]; simp [canM, c10, c18, hp28, c28, hp36, c36])
            · exact absurd (by decide) c36
          · refine z_top (y := (nI k36)) hp36 ?_
            refine z_if_lt X (pc := 36) (tgt := 41) dX11_askingChair_36 (by decide) (fun c36 => ?_) (fun c36 => ?_)
            · exact absurd c36 (nI_pos (by omega))
            · refine z_iload_n X (pc := 39) 0 dX11_askingChair_39 rfl rfl ?_
              exact z_iret X Y dX11_askingChair_40 ⟨_, rfl, rfl, Or.inr ⟨i, by omega, rfl, by simp [canM, c10, c18, hp28, c28, hp36, nI_ne_m1 (show k36 < 2 ^ 31 by omega), nI_clamp (show k36 < 2 ^ 31 by omega), c36]⟩⟩
      · refine z_top (y := (nI k28)) hp28 ?_
        refine z_if_ge X (pc := 28) (tgt := 41) dX11_askingChair_28 (by decide) (fun c28 => ?_) (fun c28 => ?_)
        · refine z_iinc X (pc := 41) (v := (nI (i + 1))) (lv1 := [(1, .int (nI (i + 1))), (0, .ref (za E 32 0))]) 0 dX11_askingChair_41 rfl (nI_1 _) (by decide) rfl ?_
          refine z_goto X (pc := 44) (tgt := 2) dX11_askingChair_44 (by decide) ?_
          refine z_sub (lv' := [(1, .int (nI (i + 1))), (0, .ref (za E 32 0))]) [0, 1] rfl ?_
          exact ih2 () (by omega) (fun c hc => by rcases Nat.lt_or_ge c i with e | e; exact hJ2 c e; rw [show c = i by omega]; simp [canM, c10, c18, hp28, nI_ne_m1 (show k28 < 2 ^ 31 by omega), nI_clamp (show k28 < 2 ^ 31 by omega), c28])
        · exact absurd (nI_pos' (by omega)) c28

def rm_X11_seatAll : Room := { frames := 5, cells := 0, slots := 0, locals := 115 }
theorem kv_X11_seatAll : KV yX11_seatAll RX11 cX11_seatAll 2 none 0 := ⟨⟨gw_556, gw_557, gw_5, gw_558⟩, by decide +kernel⟩
set_option maxRecDepth 100000 in
set_option maxHeartbeats 4000000 in
theorem c_X11_seatAll (E : ZE) (M : Mem) (g : LG) (hg : gF (M 20 0) = g) (nc nm n : Nat) (hI : Inv g nc nm n)  : Mt E yX11_seatAll cX11_seatAll 2 none rm_X11_seatAll [.ref (za E 32 0)] M (RV (fun M1 => gF (M1 20 0) = seasG g ∧ Fq tA M M1)) := by
  have hnc := hI.nc; have hnm := hI.nm; have hn := hI.c10; have hn2 := hI.m10; have h1 := leaveN_inv hI (Nat.le_refl nm); have hF := h1.fb; have h12 : ∀ m, m < nm → leaveN g nm 12 m = -1 := fun m hm => (by rw [leaveN_12, if_pos hm]); have h6 := seas6 hI; have h11 := seas11 hI
  refine z_met (own := RX11) (lv := [(0, .ref (za E 32 0))]) (by decide) rfl (Nat.le_of_ble_eq_true rfl) rfl (fun gg X Y => ?_)
  refine z_iconst X (pc := 0) (v := 0) dX11_seatAll_0 (by decide) ?_
  refine z_istore_n X (pc := 1) (lv1 := [(1, .int 0), (0, .ref (za E 32 0))]) dX11_seatAll_1 rfl (by decide) rfl ?_
  refine z_sub (lv' := [(1, .int (nI 0)), (0, .ref (za E 32 0))]) [0, 1] rfl ?_
  refine z_loop (nm) 2 (σ := Mem) (fun i s => SF M (leaveN g i) s) (fun i s => (s, [(1, .int (nI i)), (0, .ref (za E 32 0))])) ?_ 0 M (Nat.zero_le _) (SF.rf hg)
  intro i s hi2 hJ2 ih2
  obtain ⟨M1, rfl⟩ : ∃ z, z = s := ⟨s, rfl⟩
  show Z gg E M1 [(1, .int (nI i)), (0, .ref (za E 32 0))] 2 []
  replace hJ2 : SF M (leaveN g i) M1 := hJ2
  refine z_iload_n X (pc := 2) 0 dX11_seatAll_2 rfl rfl ?_
  refine z_aload_n X (pc := 3) 1 dX11_seatAll_3 rfl rfl ?_
  refine z_get X (pc := 4) 0 zk_32_0 (zc_32_0 E _) rfl inlX11 (by decide) gw_138 rfl rfl dX11_seatAll_4 ?_
  refine z_bipush X (pc := 7) (v := 8) dX11_seatAll_7 (by decide) ?_
  refine z_iald X (pc := 9) (by decide) (show (8 : Int32) = nI 8 from rfl) (by decide) dX11_seatAll_9 ?_
  refine z_top (y := (nI nm)) ((SF.bk hJ2 (by decide)).trans (by rw [leaveN_off (by decide)]; exact hnm)) ?_
  refine z_nicmp_ge X (pc := 10) (a := i) (b := nm) (tgt := 24) dX11_seatAll_10 (by decide) (by omega) (by omega) (fun c10 => ?_) (fun c10 => ?_)
  · obtain rfl : nm = i := by omega
    refine z_iconst X (pc := 24) (v := 0) dX11_seatAll_24 (by decide) ?_
    refine z_istore_n X (pc := 25) (lv1 := [(1, .int 0), (0, .ref (za E 32 0))]) dX11_seatAll_25 rfl (by decide) rfl ?_
    refine z_sub (lv' := [(1, .int (nI 0)), (0, .ref (za E 32 0))]) [0, 1] rfl ?_
    refine z_loop (10) 26 (σ := Mem) (fun j s => gF (s 20 0) = leaveN g nm ∧ Fq tA M s ∧ ∀ k, k < j → s 32 3 k = 0) (fun j s => (s, [(1, .int (nI j)), (0, .ref (za E 32 0))])) ?_ 0 M1 (Nat.zero_le _) ⟨hJ2.1, hJ2.fq, fun j h => absurd h (Nat.not_lt_zero j)⟩
    intro j s hi26 hJ26 ih26
    obtain ⟨M2, rfl⟩ : ∃ z, z = s := ⟨s, rfl⟩
    show Z gg E M2 [(1, .int (nI j)), (0, .ref (za E 32 0))] 26 []
    replace hJ26 : gF (M2 20 0) = leaveN g nm ∧ Fq tA M M2 ∧ ∀ k, k < j → M2 32 3 k = 0 := hJ26
    refine z_iload_n X (pc := 26) 0 dX11_seatAll_26 rfl rfl ?_
    refine z_bipush X (pc := 27) (v := 10) dX11_seatAll_27 (by decide) ?_
    refine z_nicmp_ge X (pc := 29) (a := j) (b := 10) (tgt := 45) dX11_seatAll_29 (by decide) (by omega) (by omega) (fun c29 => ?_) (fun c29 => ?_)
    · have hq0 : ∀ c, c < nc → (fun c => M2 32 3 c) c = 0 := fun c hc => hJ26.2.2 c (by omega)
      have hMT := MT.init hF h6 h12 hq0
      refine z_aload_n X (pc := 45) 1 dX11_seatAll_45 rfl rfl ?_
      refine z_callV X (pc := 46) (rest := []) kv_X11_askingChair (c_X11_askingChair E M2 (leaveN g nm) (And.left (SF.rf hJ26.1)) nc nm (by rw [leaveN_off (by decide)]; exact hnc) (by rw [leaveN_off (by decide)]; exact hnm) hn hn2 (fun c hc => (MT.nor6 hF hMT hc))) zk_32_0 (zc_32_0 E _) rfl rfl gw_559 (by decide) rfl rfl (Nat.le_of_ble_eq_true rfl) dX11_seatAll_46 (zk_ri (fun v_3 M_1 hA_2 => ?_))
      obtain ⟨rfl, hA_2⟩ := hA_2
      refine z_istore_n X (pc := 49) (lv1 := [(1, .int v_3), (0, .ref (za E 32 0))]) dX11_seatAll_49 rfl (by decide) rfl ?_
      refine z_sub (lv' := [(1, .int v_3), (0, .ref (za E 32 0))]) [0, 1] rfl ?_
      refine z_loop (100) 50 (σ := Mem × Rl × Int32) (fun ii s => Fq tA M s.1 ∧ MT (leaveN g nm) (gF (s.1 20 0)) (fun c => s.1 32 3 c) nc nm s.2.1 ∧ ii ≤ dcnt s.2.1 ∧ AskP (gF (s.1 20 0)) (fun c => s.1 32 3 c) nc nm s.2.2) (fun ii s => (s.1, [(1, .int (s.2.2)), (0, .ref (za E 32 0))])) ?_ 0 ⟨M2, fun _ _ => false, v_3⟩ (Nat.zero_le _) ⟨hJ26.2.1, by rw [And.left (SF.rf hJ26.1)]; exact hMT, Nat.zero_le _, by rw [And.left (SF.rf hJ26.1)]; exact hA_2⟩
      intro ii s hi50 hJ50 ih50
      obtain ⟨M3, A, v⟩ := s
      show Z gg E M3 [(1, .int v), (0, .ref (za E 32 0))] 50 []
      replace hJ50 : Fq tA M M3 ∧ MT (leaveN g nm) (gF (M3 20 0)) (fun c => M3 32 3 c) nc nm A ∧ ii ≤ dcnt A ∧ AskP (gF (M3 20 0)) (fun c => M3 32 3 c) nc nm v := hJ50
      obtain ⟨hQ, hT, hid, hV⟩ := hJ50
      have hid : ii ≤ dcnt A := hid
      refine z_iload_n X (pc := 50) 0 dX11_seatAll_50 rfl rfl ?_
      rcases hV with ⟨rfl, hno⟩ | ⟨c, hc, rfl, hk⟩
      · refine z_if_lt X (pc := 51) (tgt := 72) dX11_seatAll_51 (by decide) (fun c51 => ?_) (fun c51 => ?_)
        · exact z_vret X Y dX11_seatAll_72 ⟨rfl, by unfold seasG; rw [hI.cNe, hI.mNe]; exact MT.done hF hT h6 h12 hno, hQ⟩
        · exact absurd (by decide) c51
      · refine z_if_lt X (pc := 51) (tgt := 72) dX11_seatAll_51 (by decide) (fun c51 => ?_) (fun c51 => ?_)
        · exact absurd c51 (nI_pos (by omega))
        · refine z_aload_n X (pc := 54) 1 dX11_seatAll_54 rfl rfl ?_
          refine z_iload_n X (pc := 55) 0 dX11_seatAll_55 rfl rfl ?_
          refine z_aload_n X (pc := 56) 1 dX11_seatAll_56 rfl rfl ?_
          refine z_iload_n X (pc := 57) 0 dX11_seatAll_57 rfl rfl ?_
          refine z_callV X (pc := 58) (rest := [.int (nI c), .ref (za E 32 0)]) kv_X11_nextAsked (c_X11_nextAsked E M3 (gF (M3 20 0)) (And.left (SF.rf (M := M3) rfl)) nc nm ((hT.row (by decide) (by decide)).trans (by rw [leaveN_off (by decide)]; exact hnc)) ((hT.row (by decide) (by decide)).trans (by rw [leaveN_off (by decide)]; exact hnm)) hn hn2 c (by omega)) zk_32_0 (zc_32_0 E _) rfl rfl gw_563 (by decide) rfl rfl (Nat.le_of_ble_eq_true rfl) dX11_seatAll_58 (zk_i ?_)
          obtain ⟨m, hm, hx, hk2, hv, hd⟩ := hT.ask hF hc hk
          refine z_top (y := (nI m)) hx ?_
          refine z_callV X (pc := 61) (rest := []) kv_X11_ask (c_X11_ask E M3 (gF (M3 20 0)) (And.left (SF.rf (M := M3) rfl)) c m (by omega) (by omega) (MT.nor12 hF hT hm)) zk_32_0 (zc_32_0 E _) rfl rfl gw_571 (by decide) rfl rfl (Nat.le_of_ble_eq_true rfl) dX11_seatAll_61 (zk_rv (fun M_4 hA_5 => ?_))
          have hlt := dadd_lt hF hc hm hd.2.1; have h100 : dcnt (dadd A c m) ≤ 100 := cntB_le _ _
          have hT_6 : MT (leaveN g nm) (askG (gF (M3 20 0)) c m) (fun c => M_4 32 3 c) nc nm (dadd A c m) := MT.step hF hT h11 hc hm hk2 hv hd (fun c2 => by show M_4 32 3 c2 = _; rw [hA_5.2 32 (by decide)]; by_cases e : c2 = c; (subst e; rw [if_pos rfl]; exact up3_same); (rw [if_neg e]; exact up3_ne (by omega)))
          have hQ_7 : Fq tA M M_4 := (hQ.up (Or.inr ⟨rfl, rfl, rfl⟩)).tr (SF.fq hA_5)
          refine z_aload_n X (pc := 64) 1 dX11_seatAll_64 rfl rfl ?_
          refine z_callV X (pc := 65) (rest := []) kv_X11_askingChair (c_X11_askingChair E M_4 (askG (gF (M3 20 0)) c m) (And.left (SF.rf (And.left hA_5))) nc nm ((hT_6.row (by decide) (by decide)).trans (by rw [leaveN_off (by decide)]; exact hnc)) ((hT_6.row (by decide) (by decide)).trans (by rw [leaveN_off (by decide)]; exact hnm)) hn hn2 (fun c hc => (MT.nor6 hF hT_6 hc))) zk_32_0 (zc_32_0 E _) rfl rfl gw_559 (by decide) rfl rfl (Nat.le_of_ble_eq_true rfl) dX11_seatAll_65 (zk_ri (fun v_10 M_8 hA_9 => ?_))
          obtain ⟨rfl, hA_9⟩ := hA_9
          refine z_istore_n X (pc := 68) (lv1 := [(1, .int v_10), (0, .ref (za E 32 0))]) dX11_seatAll_68 rfl (by decide) rfl ?_
          refine z_goto X (pc := 69) (tgt := 50) dX11_seatAll_69 (by decide) ?_
          refine z_sub (lv' := [(1, .int v_10), (0, .ref (za E 32 0))]) [0, 1] rfl ?_
          exact ih50 ⟨M_4, dadd A c m, v_10⟩ (by omega) ⟨hQ_7, by rw [And.left (SF.rf (And.left hA_5))]; exact hT_6, (show ii + 1 ≤ dcnt (dadd A c m) by have := dadd_lt hF hc hm hd.2.1; omega), by rw [And.left (SF.rf (And.left hA_5))]; exact hA_9⟩
    · refine z_aload_n X (pc := 32) 1 dX11_seatAll_32 rfl rfl ?_
      refine z_get X (pc := 33) 7 zk_32_0 (zc_32_0 E _) rfl inlX11 (by decide) gw_146 rfl rfl dX11_seatAll_33 ?_
      refine z_iload_n X (pc := 36) 0 dX11_seatAll_36 rfl rfl ?_
      refine z_iconst X (pc := 37) (v := 0) dX11_seatAll_37 (by decide) ?_
      refine z_iast X (pc := 38) (by decide) rfl (show j < zn 32 3 by (first | exact (show j < 10 by omega) | exact (show j < 3 by omega))) dX11_seatAll_38 ?_
      refine z_iinc X (pc := 39) (v := (nI (j + 1))) (lv1 := [(1, .int (nI (j + 1))), (0, .ref (za E 32 0))]) 0 dX11_seatAll_39 rfl (nI_1 _) (by decide) rfl ?_
      refine z_goto X (pc := 42) (tgt := 26) dX11_seatAll_42 (by decide) ?_
      refine z_sub (lv' := [(1, .int (nI (j + 1))), (0, .ref (za E 32 0))]) [0, 1] rfl ?_
      exact ih26 (up3 M2 32 3 j 0) (by omega) ⟨by rw [up3_off (by decide)]; exact hJ26.1, hJ26.2.1.up (Or.inr ⟨rfl, rfl, rfl⟩), fun k hk => by by_cases e : k = j; (subst e; exact up3_same); (rw [up3_ne (by omega)]; exact hJ26.2.2 k (by omega))⟩
  · refine z_aload_n X (pc := 13) 1 dX11_seatAll_13 rfl rfl ?_
    refine z_iload_n X (pc := 14) 0 dX11_seatAll_14 rfl rfl ?_
    refine z_callV X (pc := 15) (rest := []) kv_X11_standUp (c_X11_standUp E M1 (leaveN g i) (And.left hJ2) i (show i < 10 by omega) (by rw [leaveN_12, if_neg (by omega)]; exact (hI.nor12 (by omega)).le (by omega))) zk_32_0 (zc_32_0 E _) rfl rfl gw_495 (by decide) rfl rfl (Nat.le_of_ble_eq_true rfl) dX11_seatAll_15 (zk_rv (fun M_11 hS_12 => ?_))
    refine z_iinc X (pc := 18) (v := (nI (i + 1))) (lv1 := [(1, .int (nI (i + 1))), (0, .ref (za E 32 0))]) 0 dX11_seatAll_18 rfl (nI_1 _) (by decide) rfl ?_
    refine z_goto X (pc := 21) (tgt := 2) dX11_seatAll_21 (by decide) ?_
    refine z_sub (lv' := [(1, .int (nI (i + 1))), (0, .ref (za E 32 0))]) [0, 1] rfl ?_
    exact ih2 M_11 (by omega) (hJ2.trans hS_12)

def rm_X11_season : Room := { frames := 6, cells := 0, slots := 0, locals := 136 }
theorem kv_X11_season : KV yX11_season RX11 cX11_season 1 (some .int) 0 := ⟨⟨gw_552, gw_553, gw_5, gw_554⟩, by decide +kernel⟩
set_option maxRecDepth 100000 in
set_option maxHeartbeats 4000000 in
theorem c_X11_season (E : ZE) (M : Mem) (g : LG) (hg : gF (M 20 0) = g) (nc nm n : Nat) (hI : Inv g nc nm n) (rs : Rs) (hR : RSm M rs) (hs : List LG) (hH : HM M hs) (tx : Bool) (htx : M 32 0 11 = zb tx)  : Mt E yX11_season cX11_season 1 (some .int) rm_X11_season [.ref (za E 32 0)] M (RI (fun v0 M1 => MX M g hs tx (oSeason g rs) v0 M1)) := by
  have hnc := hI.nc; have hnm := hI.nm; have hn := hI.c10; have hn2 := hI.m10
  refine z_met (own := RX11) (lv := [(0, .ref (za E 32 0))]) (by decide) rfl (Nat.le_of_ble_eq_true rfl) rfl (fun gg X Y => ?_)
  refine z_aload_n X (pc := 0) 0 dX11_season_0 rfl rfl ?_
  refine z_callV X (pc := 1) (rest := []) kv_X11_change (c_X11_change E M g (And.left (SF.rf hg)) hs hH tx htx) zk_32_0 (zc_32_0 E _) rfl rfl gw_248 (by decide) rfl rfl (Nat.le_of_ble_eq_true rfl) dX11_season_1 (zk_rv (fun M_1 hC_2 => ?_))
  refine z_aload_n X (pc := 4) 0 dX11_season_4 rfl rfl ?_
  refine z_callV X (pc := 5) (rest := []) kv_X11_seatAll (c_X11_seatAll E M_1 g (And.left (SF.rf (hC_2.2.g20 hg))) nc nm n hI) zk_32_0 (zc_32_0 E _) rfl rfl gw_555 (by decide) rfl rfl (Nat.le_of_ble_eq_true rfl) dX11_season_5 (zk_rv (fun M_3 hs_4 => ?_))
  refine z_aload_n X (pc := 8) 0 dX11_season_8 rfl rfl ?_
  refine z_get X (pc := 9) 0 zk_32_0 (zc_32_0 E _) rfl inlX11 (by decide) gw_138 rfl rfl dX11_season_9 ?_
  refine z_iconst X (pc := 12) (v := 5) dX11_season_12 (by decide) ?_
  refine z_dup2 X (pc := 13) dX11_season_13 rfl rfl ?_
  refine z_iald X (pc := 14) (by decide) (show (5 : Int32) = nI 5 from rfl) (by decide) dX11_season_14 ?_
  refine z_top (y := ((seasG g) 14 5)) (SF.bk (SF.rf (And.left hs_4)) (by decide)) ?_
  refine z_iconst X (pc := 15) (v := 1) dX11_season_15 (by decide) ?_
  refine z_iadd X (pc := 16) dX11_season_16 ?_
  refine z_iast X (pc := 17) (by decide) (show (5 : Int32) = nI 5 from rfl) (by decide) dX11_season_17 ?_
  refine z_gen (SF.pbk (SF.rf (And.left hs_4)) (by decide)) (fun M_5 hS_6 => ?_)
  refine z_aload_n X (pc := 18) 0 dX11_season_18 rfl rfl ?_
  refine z_callV X (pc := 19) (rest := []) kv_X11_sitting (c_X11_sitting E M_5 (gu (seasG g) 14 5 (((seasG g) 14 5) + 1)) (And.left hS_6) nm (by rw [gu_ne (by decide), seasG_off (by decide)]; exact hnm) (by omega) (fun k hk => by rw [gu_ne (by omega)]; exact ((seasG_inv hI).nor12 hk).le (by omega))) zk_32_0 (zc_32_0 E _) rfl rfl gw_474 (by decide) rfl rfl (Nat.le_of_ble_eq_true rfl) dX11_season_19 (zk_i ?_)
  exact z_iret X Y dX11_season_22 ⟨_, rfl, MX.done hR hC_2 (And.left hS_6) (And.right hs_4 |>.tr (SF.fq hS_6)) (nI_pos (by have := cntB_le (sits (gu (seasG g) 14 5 (((seasG g) 14 5) + 1))) nm; omega)) (by simp [oSeason, seasG_off, hI.mNe])⟩

def rm_X11_would : Room := { frames := 6, cells := 0, slots := 0, locals := 136 }
theorem kv_X11_would : KV yX11_would RX11 cX11_would 3 (some .int) 1 := ⟨⟨gw_584, gw_585, gw_5, gw_586⟩, by decide +kernel⟩
set_option maxRecDepth 100000 in
set_option maxHeartbeats 4000000 in
theorem c_X11_would (E : ZE) (M : Mem) (g : LG) (hg : gF (M 20 0) = g) (nc nm n : Nat) (hI : Inv g nc nm n) (x : Int32) : Mt E yX11_would cX11_would 3 (some .int) rm_X11_would [.ref (za E 32 0), .int x] M (RI (fun v M1 => v = aWould g x ∧ gF (M1 20 0) = g ∧ Fq tW M M1)) := by
  have hnc := hI.nc; have hnm := hI.nm; have hn := hI.c10; have hn2 := hI.m10
  refine z_met (own := RX11) (lv := [(0, .ref (za E 32 0)), (1, .int x)]) (by decide) rfl (Nat.le_of_ble_eq_true rfl) rfl (fun gg X Y => ?_)
  refine z_aload_n X (pc := 0) 0 dX11_would_0 rfl rfl ?_
  refine z_iload_n X (pc := 1) 1 dX11_would_1 rfl rfl ?_
  refine z_callV X (pc := 2) (rest := []) kv_X11_isChair (c_X11_isChair E M g (And.left (SF.rf hg)) nc hnc (by omega) x) zk_32_0 (zc_32_0 E _) rfl rfl gw_319 (by decide) rfl rfl (Nat.le_of_ble_eq_true rfl) dX11_would_2 (zk_i ?_)
  refine z_bif_ne X (pc := 5) (tgt := 12) dX11_would_5 (by decide) (fun c5 => ?_) (fun c5 => ?_)
  · obtain ⟨c, hc, rfl⟩ := inR_of c5 (by omega)
    refine z_aload_n X (pc := 12) 0 dX11_would_12 rfl rfl ?_
    refine z_get X (pc := 13) 0 zk_32_0 (zc_32_0 E _) rfl inlX11 (by decide) gw_138 rfl rfl dX11_would_13 ?_
    refine z_aload_n X (pc := 16) 0 dX11_would_16 rfl rfl ?_
    refine z_get X (pc := 17) 3 zk_32_0 (zc_32_0 E _) rfl inlX11 (by decide) gw_141 rfl rfl dX11_would_17 ?_
    refine z_callS X (pc := 20) (rest := []) ks_X11_copyRow (c_X11_copyRow E M 20 23 (by decide) (by decide) (by decide)) gw_258 (by decide) rfl rfl (Nat.le_of_ble_eq_true rfl) dX11_would_20 (zk_rv (fun M_1 h_2 => ?_))
    refine z_aload_n X (pc := 23) 0 dX11_would_23 rfl rfl ?_
    refine z_callV X (pc := 24) (rest := []) kv_X11_seatAll (c_X11_seatAll E M_1 g (And.left (SF.rf (by rw [h_2.2 20 (by decide)]; exact hg))) nc nm n hI) zk_32_0 (zc_32_0 E _) rfl rfl gw_555 (by decide) rfl rfl (Nat.le_of_ble_eq_true rfl) dX11_would_24 (zk_rv (fun M_3 hs_4 => ?_))
    refine z_aload_n X (pc := 27) 0 dX11_would_27 rfl rfl ?_
    refine z_iload_n X (pc := 28) 1 dX11_would_28 rfl rfl ?_
    refine z_bipush X (pc := 29) (v := 6) dX11_would_29 (by decide) ?_
    refine z_callV X (pc := 31) (rest := []) kv_X11_ofChair (c_X11_ofChair E M_3 (seasG g) (And.left (SF.rf (And.left hs_4))) c 6 (show c < 10 by omega) (by decide)) zk_32_0 (zc_32_0 E _) rfl rfl gw_323 (by decide) rfl rfl (Nat.le_of_ble_eq_true rfl) dX11_would_31 (zk_i ?_)
    refine z_top (y := (matS g nc nm c)) (seasG_6 hI hc) ?_
    refine z_istore_n X (pc := 34) (lv1 := [(2, .int (matS g nc nm c)), (0, .ref (za E 32 0)), (1, .int (nI c))]) dX11_would_34 rfl (by decide) rfl ?_
    refine z_aload_n X (pc := 35) 1 dX11_would_35 rfl rfl ?_
    refine z_get X (pc := 36) 3 zk_32_0 (zc_32_0 E _) rfl inlX11 (by decide) gw_141 rfl rfl dX11_would_36 ?_
    refine z_aload_n X (pc := 39) 1 dX11_would_39 rfl rfl ?_
    refine z_get X (pc := 40) 0 zk_32_0 (zc_32_0 E _) rfl inlX11 (by decide) gw_138 rfl rfl dX11_would_40 ?_
    refine z_callS X (pc := 43) (rest := []) ks_X11_copyRow (c_X11_copyRow E M_3 23 20 (by decide) (by decide) (by decide)) gw_258 (by decide) rfl rfl (Nat.le_of_ble_eq_true rfl) dX11_would_43 (zk_rv (fun M_5 h_6 => ?_))
    refine z_iload_n X (pc := 46) 0 dX11_would_46 rfl rfl ?_
    refine z_if_ge X (pc := 47) (tgt := 56) dX11_would_47 (by decide) (fun c47 => ?_) (fun c47 => ?_)
    · refine z_iload_n X (pc := 56) 0 dX11_would_56 rfl rfl ?_
      exact z_iret X Y dX11_would_57 ⟨_, rfl, by rw [aWould_in hI hc]; simp [orN, c47, (i32_nlt.mpr c47)], by rw [h_6.1, hs_4.2.row (fun k => by unfold tA; omega)]; exact h_2.1.trans hg, fun b r k q => would_fq h_2 hs_4.2 h_6 b r k q⟩
    · refine z_sipush X (pc := 50) (v := (-1015)) dX11_would_50 (by decide) ?_
      refine z_goto X (pc := 53) (tgt := 57) dX11_would_53 (by decide) ?_
      exact z_iret X Y dX11_would_57 ⟨_, rfl, by rw [aWould_in hI hc]; simp [orN, c47, (i32_nle.mp c47)], by rw [h_6.1, hs_4.2.row (fun k => by unfold tA; omega)]; exact h_2.1.trans hg, fun b r k q => would_fq h_2 hs_4.2 h_6 b r k q⟩
  · refine z_sipush X (pc := 8) (v := (-1011)) dX11_would_8 (by decide) ?_
    exact z_iret X Y dX11_would_11 ⟨_, rfl, by simp [aWould, hI.cNe, hI.mNe, c5], hg, Fq.rf⟩

def rm_X11_wouldAgain : Room := { frames := 7, cells := 0, slots := 0, locals := 158 }
theorem kv_X11_wouldAgain : KV yX11_wouldAgain RX11 cX11_wouldAgain 2 (some .int) 1 := ⟨⟨gw_604, gw_605, gw_5, gw_606⟩, by decide +kernel⟩
set_option maxRecDepth 100000 in
set_option maxHeartbeats 4000000 in
theorem c_X11_wouldAgain (E : ZE) (M : Mem) (g : LG) (hg : gF (M 20 0) = g) (nc nm n : Nat) (hI : Inv g nc nm n) (x : Int32) : Mt E yX11_wouldAgain cX11_wouldAgain 2 (some .int) rm_X11_wouldAgain [.ref (za E 32 0), .int x] M (RI (fun v M1 => v = aWould g x ∧ gF (M1 20 0) = g ∧ Fq tW M M1)) := by
  have hnc := hI.nc; have hnm := hI.nm; have hn := hI.c10; have hn2 := hI.m10
  refine z_met (own := RX11) (lv := [(0, .ref (za E 32 0)), (1, .int x)]) (by decide) rfl (Nat.le_of_ble_eq_true rfl) rfl (fun gg X Y => ?_)
  refine z_aload_n X (pc := 0) 0 dX11_wouldAgain_0 rfl rfl ?_
  refine z_iload_n X (pc := 1) 1 dX11_wouldAgain_1 rfl rfl ?_
  refine z_callV X (pc := 2) (rest := []) kv_X11_would (c_X11_would E M g hg nc nm n hI x) zk_32_0 (zc_32_0 E _) rfl rfl gw_607 (by decide) rfl rfl (Nat.le_of_ble_eq_true rfl) dX11_wouldAgain_2 (zk_ri (fun v_3 M_1 h_2 => ?_))
  exact z_iret X Y dX11_wouldAgain_5 ⟨_, rfl, h_2⟩
