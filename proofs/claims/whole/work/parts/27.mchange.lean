theorem highB_2a {g : LG} {but : Int32} {n : Nat} (h : (highB g but n).1 = -1) (hn : n < 2 ^ 31 := by omega) : (highB g but n).2 = 0 := by
  induction n with
  | zero => rfl
  | succ n ih =>
    unfold highB at h ⊢
    split
    · next q => rw [if_pos q] at h; exact absurd h (nI_ne_m1 (by omega))
    · next q => rw [if_neg q] at h; exact ih h (by omega)
theorem highB_2b {g : LG} {but : Int32} {n k : Nat} (h : (highB g but n).1 = nI k) (hk : k < 2 ^ 31) (hn : n < 2 ^ 31 := by omega) : (highB g but n).2 = g 11 k := by
  induction n with
  | zero => exact absurd h.symm (nI_ne_m1 hk)
  | succ n ih =>
    unfold highB at h ⊢
    split
    · next q =>
      rw [if_pos q] at h
      have := nI_inj (by omega) hk h
      subst this
      rfl
    · next q => rw [if_neg q] at h; exact ih h (by omega)
/-! one concert of the reference: the musicians play in their order, then the stands wear in theirs -/
def payG (g : LG) (m : Nat) (p : Int32) : LG := gu (gu (gu g 10 m (g 10 m + p - (if g 10 m + p ≤ 99 then 0 else g 10 m + p - 99))) 14 1 (g 14 1 + p)) 14 3 (g 14 3 + (if g 10 m + p ≤ 99 then 0 else g 10 m + p - 99))
def st (g : LG) (m : Nat) : Nat := (g 12 m).toNatClampNeg
def musP (g : LG) : Nat → LG
  | 0 => g
  | n + 1 => if g 12 n = -1 then musP g n else playG (musP g n) (st g n) n
def musS (g : LG) : Nat → Int32
  | 0 => 0
  | n + 1 => if sits g n then musS g n + fit g (st g n) n else musS g n
theorem musP_off {g : LG} {n j k : Nat} (h : j ≠ 5 ∧ j ≠ 10 ∧ j ≠ 13 ∧ (j = 14 → k ≠ 1 ∧ k ≠ 3)) : musP g n j k = g j k := by
  induction n with
  | zero => rfl
  | succ n ih =>
    unfold musP
    split
    · exact ih
    · rw [playG_off h, ih]
theorem playG_offr {g : LG} {c m j k : Nat} (h : j ≠ 5 ∧ j ≠ 10 ∧ j ≠ 13 ∧ j ≠ 14) : playG g c m j k = g j k := playG_off ⟨h.1, h.2.1, h.2.2.1, fun e => absurd e h.2.2.2⟩
theorem musP_row {g : LG} {n j : Nat} (h : j ≠ 5 ∧ j ≠ 10 ∧ j ≠ 13 ∧ j ≠ 14) : musP g n j = g j := funext fun k => musP_off ⟨h.1, h.2.1, h.2.2.1, fun e => absurd e h.2.2.2⟩
theorem musP_offr {g : LG} {n j k : Nat} (h : j ≠ 5 ∧ j ≠ 10 ∧ j ≠ 13 ∧ j ≠ 14) : musP g n j k = g j k := by rw [musP_row h]
theorem musP_fit {g : LG} {n c m : Nat} : fit (musP g n) c m = fit g c m := by rw [fit_congr (musP_row (by decide)) (musP_row (by decide)) (musP_row (by decide)) (musP_row (by decide))]
theorem playG_10 {g : LG} {c m k : Nat} : playG g c m 10 k = if k = m then g 10 m + keptC g c m else g 10 k := by
  unfold playG
  rw [gu_ne (by omega), gu_ne (by omega), gu_ne (by omega), gu_ne (by omega), gu_r]
  by_cases z : k = m <;> simp [z]
theorem musP_10 {g : LG} {n k : Nat} (h : n ≤ k) : musP g n 10 k = g 10 k := by
  induction n with
  | zero => rfl
  | succ n ih =>
    unfold musP
    split
    · exact ih (by omega)
    · rw [playG_10, if_neg (by omega), ih (by omega)]
theorem musP_rng {g : LG} {nc nm n i : Nat} (hI : Inv g nc nm n) (hi : i < nm) : rng (musP g i 10 i) 0 99 := by
  rw [musP_10 (Nat.le_refl i)]
  exact (hI.mu i hi).2.2.2.1
theorem pay_k : ∀ x, x < 100 → ∀ p, p < 5 → ((if nI x + nI p ≤ 99 then (0 : Int32) else nI x + nI p - 99) = nI p - (if 99 - nI x < nI p then 99 - nI x else nI p) ∧ nI x + nI p - (if nI x + nI p ≤ 99 then (0 : Int32) else nI x + nI p - 99) = nI x + (if 99 - nI x < nI p then 99 - nI x else nI p)) := by decide +kernel
theorem payG_eq {h : LG} {c m : Nat} (hx : rng (h 10 m) 0 99) (hp : rng (fit h c m / 3) 0 4) : payG h m (fit h c m / 3) = gu (gu (gu h 10 m (h 10 m + keptC h c m)) 14 1 (h 14 1 + payC h c m)) 14 3 (h 14 3 + (payC h c m - keptC h c m)) := by
  obtain ⟨x, -, hx, ex⟩ := hx
  obtain ⟨p, -, hp, ep⟩ := hp
  have := pay_k x (by omega) p (by omega)
  unfold payG keptC payC
  rw [ex, ep, this.2, this.1]
theorem playM_eq {h : LG} {c m : Nat} (hx : rng (h 10 m) 0 99) (hp : rng (fit h c m / 3) 0 4) : gu (gu (payG h m (fit h c m / 3)) 5 c (payG h m (fit h c m / 3) 5 c + fit h c m)) 13 m (gu (payG h m (fit h c m / 3)) 5 c (payG h m (fit h c m / 3) 5 c + fit h c m) 13 m + 1) = playG h c m := by
  rw [payG_eq hx hp]
  have e1 : ∀ a b d : Int32, gu (gu (gu h 10 m a) 14 1 b) 14 3 d 5 c = h 5 c := fun a b d => by rw [gu_ne (by omega), gu_ne (by omega), gu_ne (by omega)]
  have e2 : ∀ a b d e : Int32, gu (gu (gu (gu h 10 m a) 14 1 b) 14 3 d) 5 c e 13 m = h 13 m := fun a b d e => by rw [gu_ne (by omega), gu_ne (by omega), gu_ne (by omega), gu_ne (by omega)]
  rw [e1, e2]
  unfold playG
  rw [gu_comm (j := 5) (j' := 13) (by omega), gu_comm (j := 14) (k := 3) (j' := 13) (by omega), gu_comm (j := 14) (k := 1) (j' := 13) (by omega)]
/-- what a chair asks for its stand to wear -/
def WHyp (g : LG) (c : Nat) : Prop := g 6 c = -1 ∨ ∃ m, m < 10 ∧ g 6 c = nI m ∧ nOr (g 12 m) 10 ∧ ¬ g 3 c = 0
theorem WHyp.nor {g : LG} {c : Nat} (h : WHyp g c) : nOr (g 6 c) 10 := by
  rcases h with q | ⟨m, hm, q, -⟩
  · exact Or.inl q
  · exact Or.inr ⟨m, hm, q⟩
theorem wearOf_no {g : LG} {c : Nat} {w : Int32} (h : g 6 c = -1) : wearOf g c w = 0 := by
  unfold wearOf taken
  rw [h]
  rfl
theorem WHyp.pos {g : LG} {c : Nat} {w : Int32} (h : WHyp g c) (hw : ¬ wearOf g c w ≤ 0) : ∃ m, m < 10 ∧ g 6 c = nI m ∧ nOr (g 12 m) 10 ∧ ¬ g 3 c = 0 := by
  rcases h with q | q
  · rw [wearOf_no q] at hw; exact absurd (Int32.le_refl 0) hw
  · exact q
theorem wearOf_rng {g : LG} {c : Nat} {w : Int32} (hw : rng w 1 4) : rng (wearOf g c w) 0 4 := by
  unfold wearOf
  split
  · split
    · split
      · exact ⟨1, by omega, by omega, rfl⟩
      · exact ⟨0, by omega, by omega, rfl⟩
    · exact hw.mono (by omega) (by omega)
  · exact ⟨0, by omega, by omega, rfl⟩
def wearD (g : LG) (c : Nat) (w : Int32) : LG := if taken g c = true then wearG g c w else g
theorem standW_c : ∀ x, x < 4 → ∀ y, y < 5 → ((nI y ≤ nI x) ↔ ¬ nI x - nI y < 0) := by decide +kernel
theorem standW_a {g : LG} {c : Nat} {w : Int32} (h3 : rng (g 3 c) 0 3) (hw : rng (wearOf g c w) 0 4) (h : ¬ wearOf g c w ≤ g 3 c) : (0 : Int32) = standW g c w := by
  obtain ⟨x, -, hx, ex⟩ := h3
  obtain ⟨y, -, hy, ey⟩ := hw
  unfold standW
  rw [ex, ey] at h ⊢
  rw [if_pos (Decidable.byContradiction fun z => h ((standW_c x (by omega) y (by omega)).mpr z))]
theorem standW_b {g : LG} {c : Nat} {w : Int32} (h3 : rng (g 3 c) 0 3) (hw : rng (wearOf g c w) 0 4) (h : wearOf g c w ≤ g 3 c) : g 3 c - wearOf g c w = standW g c w := by
  obtain ⟨x, -, hx, ex⟩ := h3
  obtain ⟨y, -, hy, ey⟩ := hw
  unfold standW
  rw [ex, ey] at h ⊢
  rw [if_neg ((standW_c x (by omega) y (by omega)).mp h)]
theorem taken_of {g : LG} {c m : Nat} (h : g 6 c = nI m) (hm : m < 2 ^ 31) : taken g c = true := by
  unfold taken
  rw [h, decide_eq_false (nI_ne_m1 hm)]
  rfl
theorem wearD_1 {g : LG} {c m : Nat} {w x : Int32} (h6 : g 6 c = nI m) (_h : ¬ wearOf g c w ≤ 0) (hx : x = standW g c w) (h0 : x = 0) (hm : m < 2 ^ 31 := by omega) : wearD g c w = leaveG (gu g 3 c x) m := by
  unfold wearD
  rw [taken_of h6 hm, if_pos rfl]
  unfold wearG who
  rw [← hx, if_pos h0, h6, nI_clamp hm, h0]
theorem wearD_2 {g : LG} {c : Nat} {w x : Int32} (hq : WHyp g c) (h : ¬ wearOf g c w ≤ 0) (hx : x = standW g c w) (h0 : ¬ x = 0) : wearD g c w = gu g 3 c x := by
  obtain ⟨m, hm, h6, -, -⟩ := hq.pos h
  unfold wearD
  rw [taken_of h6 (by omega), if_pos rfl]
  unfold wearG
  rw [← hx, if_neg h0]
theorem wearD_3 {g : LG} {c : Nat} {w x : Int32} (h3 : rng (g 3 c) 0 3) (hq : WHyp g c) (hw : rng (wearOf g c w) 0 4) (h : wearOf g c w ≤ 0) (hx : x = standW g c w) : wearD g c w = gu g 3 c x := by
  obtain ⟨y, -, hy, ey⟩ := hw
  have e0 : wearOf g c w = 0 := by
    rw [ey] at h ⊢
    have : ¬ 0 < y := fun z => nI_nle z (by omega) h
    rw [show y = 0 by omega]
    rfl
  have es : standW g c w = g 3 c := by
    unfold standW
    rw [e0, Int32.sub_zero, if_neg (h3.lt (by decide))]
  rw [hx, es, gu_self rfl]
  unfold wearD
  split
  · next ht =>
    rcases hq with q | ⟨m, hm, h6, -, h0⟩
    · exact absurd q (taken_ne ht)
    · unfold wearG
      rw [es, if_neg h0, gu_self rfl]
  · rfl
def wearN (g : LG) (w : Int32) : Nat → LG
  | 0 => g
  | n + 1 => wearD (wearN g w n) n w
theorem wearD_off {g : LG} {c j k : Nat} {w : Int32} (h : j ≠ 3 ∧ j ≠ 6 ∧ j ≠ 11 ∧ j ≠ 12) : wearD g c w j k = g j k := by
  unfold wearD
  split
  · exact wearG_off h
  · rfl
theorem wearN_off {g : LG} {n j k : Nat} {w : Int32} (h : j ≠ 3 ∧ j ≠ 6 ∧ j ≠ 11 ∧ j ≠ 12) : wearN g w n j k = g j k := by
  induction n with
  | zero => rfl
  | succ n ih => unfold wearN; rw [wearD_off h, ih]
theorem wearN_14 {g : LG} {n k : Nat} {w : Int32} : wearN g w n 14 k = g 14 k := wearN_off (by decide)
/-- the rows that wear alone changes -/
def jW (j : Nat) : Prop := j = 3 ∨ j = 6 ∨ j = 11 ∨ j = 12
theorem leaveG_congr {g h : LG} {m j k : Nat} (e6 : ∀ k, h 6 k = g 6 k) (e12 : ∀ k, h 12 k = g 12 k) (ej : h j k = g j k) : leaveG h m j k = leaveG g m j k := by
  unfold leaveG unsit
  rw [e12 m]
  split
  · simp only [gu_r, ej]
  · simp only [gu_r, ej]
theorem wearOf_congr {g h : LG} {c : Nat} {w : Int32} (e1 : h 1 = g 1) (e8 : h 8 = g 8) (e6 : h 6 c = g 6 c) : wearOf h c w = wearOf g c w := by
  unfold wearOf taken who
  rw [e1, e8, e6]
theorem wearG_congr {g h : LG} {c j k : Nat} {w : Int32} (e1 : h 1 = g 1) (e8 : h 8 = g 8) (eW : ∀ j k, jW j → h j k = g j k) (hj : jW j) : wearG h c w j k = wearG g c w j k := by
  have e6 : h 6 c = g 6 c := eW 6 c (by unfold jW; omega)
  have e3 : h 3 c = g 3 c := eW 3 c (by unfold jW; omega)
  have es : standW h c w = standW g c w := by unfold standW; rw [wearOf_congr e1 e8 e6, e3]
  unfold wearG
  rw [es]
  split
  · unfold who
    rw [e6]
    refine leaveG_congr (fun k => ?_) (fun k => ?_) ?_
    · rw [gu_ne (by omega), gu_ne (by omega)]; exact eW 6 k (by unfold jW; omega)
    · rw [gu_ne (by omega), gu_ne (by omega)]; exact eW 12 k (by unfold jW; omega)
    · simp only [gu_r]; rw [eW j k hj]
  · simp only [gu_r]; rw [eW j k hj]
theorem playG_congr {g h : LG} {c m j k : Nat} (e : ∀ j k, ¬ jW j → h j k = g j k) (hj : ¬ jW j) : playG h c m j k = playG g c m j k := by
  have r : ∀ j, ¬ jW j → h j = g j := fun j hj => funext fun k => e j k hj
  have ef : fit h = fit g := fit_congr (r 0 (by unfold jW; omega)) (r 1 (by unfold jW; omega)) (r 7 (by unfold jW; omega)) (r 8 (by unfold jW; omega))
  unfold playG keptC payC
  rw [ef, r 10 (by unfold jW; omega), r 13 (by unfold jW; omega), r 14 (by unfold jW; omega), r 5 (by unfold jW; omega)]
  simp only [gu_r]
  rw [e j k hj]
def wearC (g : LG) (w : Int32) : Nat → LG
  | 0 => g
  | n + 1 => if taken g n = true then wearG (wearC g w n) n w else wearC g w n
def playC (g : LG) : Nat → LG
  | 0 => g
  | n + 1 => if taken g n = true then playG (playC g n) n (who g n) else playC g n
theorem wearC_off {g : LG} {n j k : Nat} {w : Int32} (h : ¬ jW j) : wearC g w n j k = g j k := by
  unfold jW at h
  induction n with
  | zero => rfl
  | succ n ih =>
    unfold wearC
    split
    · rw [wearG_off (by omega), ih]
    · exact ih
theorem playC_off {g : LG} {n j k : Nat} (h : j ≠ 5 ∧ j ≠ 10 ∧ j ≠ 13 ∧ j ≠ 14) : playC g n j k = g j k := by
  induction n with
  | zero => rfl
  | succ n ih =>
    unfold playC
    split
    · rw [playG_off ⟨h.1, h.2.1, h.2.2.1, fun e => absurd e h.2.2.2⟩, ih]
    · exact ih
theorem conC_split {g : LG} {nc nm n i : Nat} {w : Int32} (hI : Inv g nc nm n) (hi : i ≤ nc) : (∀ j k, jW j → (conC g w i).1 j k = wearC g w i j k) ∧ (∀ j k, ¬ jW j → (conC g w i).1 j k = playC g i j k) ∧ (conC g w i).2 = sumI (fun c => if taken g c = true then fit g c (who g c) else 0) i := by
  induction i with
  | zero => exact ⟨fun _ _ _ => rfl, fun _ _ _ => rfl, rfl⟩
  | succ i ih =>
    obtain ⟨h1, h2, h3⟩ := ih (by omega)
    have e6 := (conC_keep (w := w) hI (show i ≤ nc by omega) i (Nat.le_refl i) (by omega)).1
    have et : taken (conC g w i).1 i = taken g i := by unfold taken; rw [e6]
    have ew : who (conC g w i).1 i = who g i := by unfold who; rw [e6]
    have r : ∀ j, j ≠ 5 ∧ j ≠ 10 ∧ j ≠ 13 ∧ j ≠ 14 → ¬ jW j → (conC g w i).1 j = g j := fun j hj hw => funext fun k => by rw [h2 j k hw, playC_off hj]
    have ef : fit (conC g w i).1 = fit g := fit_congr (r 0 (by decide) (by unfold jW; omega)) (r 1 (by decide) (by unfold jW; omega)) (r 7 (by decide) (by unfold jW; omega)) (r 8 (by decide) (by unfold jW; omega))
    have es : sumI (fun c => if taken g c = true then fit g c (who g c) else 0) (i + 1) = sumI (fun c => if taken g c = true then fit g c (who g c) else 0) i + (if taken g i = true then fit g i (who g i) else 0) := rfl
    have ec : conC g w (i + 1) = if taken (conC g w i).1 i = true then (wearG (playG (conC g w i).1 i (who (conC g w i).1 i)) i w, (conC g w i).2 + fit (conC g w i).1 i (who (conC g w i).1 i)) else conC g w i := rfl
    have ecw : wearC g w (i + 1) = if taken g i = true then wearG (wearC g w i) i w else wearC g w i := rfl
    have ecp : playC g (i + 1) = if taken g i = true then playG (playC g i) i (who g i) else playC g i := rfl
    rw [ec, ecw, ecp, es, et, ew, ef]
    cases ht : taken g i with
    | false =>
      rw [if_neg (by decide), if_neg (by decide), if_neg (by decide), if_neg (by decide), Int32.add_zero]
      exact ⟨h1, h2, h3⟩
    | true =>
      rw [if_pos rfl, if_pos rfl, if_pos rfl, if_pos rfl]
      refine ⟨fun j k hj => ?_, fun j k hj => ?_, by rw [← h3]⟩
      · refine wearG_congr (funext fun k => ?_) (funext fun k => ?_) (fun j k hj => ?_) hj
        · rw [playG_offr (by decide), h2 1 k (by unfold jW; omega), playC_off (by decide), wearC_off (by unfold jW; omega)]
        · rw [playG_offr (by decide), h2 8 k (by unfold jW; omega), playC_off (by decide), wearC_off (by unfold jW; omega)]
        · have hj' := hj
          unfold jW at hj'
          rw [playG_off ⟨by omega, by omega, by omega, fun z => by omega⟩]
          exact h1 j k hj
      · have hj' := hj
        unfold jW at hj'
        show wearG _ i w j k = _
        rw [wearG_off (by omega)]
        exact playG_congr (fun j k hj => h2 j k hj) hj
theorem wearN_split {g P : LG} {nc nm n i : Nat} {w : Int32} (hI : Inv g nc nm n) (hi : i ≤ nc) (hP : ∀ j, j ≠ 5 ∧ j ≠ 10 ∧ j ≠ 13 ∧ j ≠ 14 → P j = g j) : (∀ j k, jW j → wearN P w i j k = wearC g w i j k) := by
  induction i with
  | zero => exact fun j k hj => by unfold jW at hj; show P j k = g j k; rw [hP j (by omega)]
  | succ i ih =>
    have h1 := ih (by omega)
    have e6 : wearN P w i 6 i = g 6 i := by
      rw [h1 6 i (by unfold jW; omega), ← (conC_split hI (show i ≤ nc by omega)).1 6 i (by unfold jW; omega)]
      exact (conC_keep (w := w) hI (show i ≤ nc by omega) i (Nat.le_refl i) (by omega)).1
    have et : taken (wearN P w i) i = taken g i := by unfold taken; rw [e6]
    intro j k hj
    have ecw : wearC g w (i + 1) = if taken g i = true then wearG (wearC g w i) i w else wearC g w i := rfl
    have ecn : wearN P w (i + 1) = if taken (wearN P w i) i = true then wearG (wearN P w i) i w else wearN P w i := rfl
    rw [ecw, ecn, et]
    cases ht : taken g i with
    | false => exact h1 j k hj
    | true =>
      rw [if_pos rfl, if_pos rfl]
      refine wearG_congr (funext fun k => ?_) (funext fun k => ?_) h1 hj
      · rw [wearN_off (by decide), hP 1 (by decide), wearC_off (by unfold jW; omega)]
      · rw [wearN_off (by decide), hP 8 (by decide), wearC_off (by unfold jW; omega)]
theorem wearG_3 {g : LG} {c k : Nat} {w : Int32} (h : k ≠ c) : wearG g c w 3 k = g 3 k := by
  unfold wearG
  split
  · rw [leaveG_off (by decide), gu_ne (fun z => h z.2)]
  · exact gu_ne (fun z => h z.2)
theorem wearN_3k {g : LG} {n k : Nat} {w : Int32} (h : n ≤ k) : wearN g w n 3 k = g 3 k := by
  induction n with
  | zero => rfl
  | succ n ih =>
    unfold wearN wearD
    split
    · rw [wearG_3 (by omega), ih (by omega)]
    · exact ih (by omega)
theorem wearN_3 {g : LG} {nc nm n j : Nat} {w : Int32} (hI : Inv g nc nm n) (hj : j < nc) : rng (wearN (musP g nm) w j 3 j) 0 3 := by
  rw [wearN_3k (Nat.le_refl j), musP_offr (by decide)]
  exact (hI.ch j hj).2.2.2.1
theorem musP_P {g : LG} {nm : Nat} : ∀ j, j ≠ 5 ∧ j ≠ 10 ∧ j ≠ 13 ∧ j ≠ 14 → musP g nm j = g j := fun _ h => musP_row h
theorem wearN_hyp {g : LG} {nc nm n j : Nat} {w : Int32} (hI : Inv g nc nm n) (hj : j < nc) : WHyp (wearN (musP g nm) w j) j := by
  have h10 := hI.c10
  have h20 := hI.m10
  have hW := wearN_split (w := w) hI (show j ≤ nc by omega) (musP_P (nm := nm))
  have hC := (conC_split (w := w) hI (show j ≤ nc by omega)).1
  have hk := conC_keep (w := w) hI (show j ≤ nc by omega) j (Nat.le_refl j) hj
  have e6 : wearN (musP g nm) w j 6 j = g 6 j := by rw [hW 6 j (by unfold jW; omega), ← hC 6 j (by unfold jW; omega)]; exact hk.1
  unfold WHyp
  rw [e6, wearN_3k (Nat.le_refl j), musP_offr (by decide)]
  rcases hI.sit hj with q | ⟨m, hm, q1, q2⟩
  · exact Or.inl q
  · refine Or.inr ⟨m, by omega, q1, Or.inr ⟨j, by omega, ?_⟩, fun z => ?_⟩
    · rw [hW 12 m (by unfold jW; omega), ← hC 12 m (by unfold jW; omega)]
      exact hk.2 m hm q2
    · have := (hI.ch j hj).2.2.2.2.2.2 z
      rw [q1] at this
      exact nI_ne_m1 (by omega) this
/-! sums over pairs -/
theorem sumI_zero {f : Nat → Int32} {n : Nat} (h : ∀ k, k < n → f k = 0) : sumI f n = 0 := by
  induction n with
  | zero => rfl
  | succ n ih => unfold sumI; rw [ih (fun k hk => h k (by omega)), h n (by omega)]; rfl
theorem sumI_one {f : Nat → Int32} {n m : Nat} (hm : m < n) (h : ∀ k, k < n → k ≠ m → f k = 0) : sumI f n = f m := by
  induction n with
  | zero => omega
  | succ n ih =>
    unfold sumI
    by_cases e : m = n
    · subst e
      rw [sumI_zero (fun k hk => h k (by omega) (by omega)), Int32.zero_add]
    · rw [ih (by omega) (fun k hk => h k (by omega)), h n (by omega) (fun z => e z.symm), Int32.add_zero]
theorem sumI_plus {f h : Nat → Int32} {n : Nat} : sumI (fun k => f k + h k) n = sumI f n + sumI h n := by
  induction n with
  | zero => rfl
  | succ n ih =>
    unfold sumI
    rw [ih]
    show sumI f n + sumI h n + (f n + h n) = sumI f n + f n + (sumI h n + h n)
    rw [Int32.add_assoc, Int32.add_assoc, ← Int32.add_assoc (sumI h n), Int32.add_comm (sumI h n), Int32.add_assoc (f n)]
theorem sumI_swap {F : Nat → Nat → Int32} {a b : Nat} : sumI (fun c => sumI (fun m => F c m) b) a = sumI (fun m => sumI (fun c => F c m) a) b := by
  induction a with
  | zero =>
    show (0 : Int32) = _
    exact (sumI_zero (fun k _ => rfl)).symm
  | succ a ih =>
    show sumI (fun c => sumI (fun m => F c m) b) a + sumI (fun m => F a m) b = sumI (fun m => sumI (fun c => F c m) a + F a m) b
    rw [ih, sumI_plus]
theorem sum_pair {g : LG} {nc nm n : Nat} (hI : Inv g nc nm n) (f : Nat → Nat → Int32) : sumI (fun c => if taken g c = true then f c (who g c) else 0) nc = sumI (fun m => if sits g m = true then f (st g m) m else 0) nm := by
  have h10 := hI.c10
  have h20 := hI.m10
  have e1 : ∀ c, c < nc → (if taken g c = true then f c (who g c) else 0) = sumI (fun m => if g 12 m = nI c then f c m else 0) nm := fun c hc => by
    rcases hI.sit hc with q | ⟨m, hm, q1, q2⟩
    · rw [if_neg (fun z => taken_ne z q), sumI_zero]
      intro m hm
      rw [if_neg]
      intro z
      have := hI.ef.1 m c hm hc z
      rw [q] at this
      exact nI_ne_m1 (by omega) this.symm
    · rw [if_pos (taken_of q1 (by omega)), sumI_one (m := m) hm, if_pos q2]
      · unfold who; rw [q1, nI_clamp (by omega)]
      · intro k hk hne
        rw [if_neg]
        intro z
        have := hI.ef.1 k c hk hc z
        exact hne (nI_inj (by omega) (by omega) (this.symm.trans q1))
  have e2 : ∀ m, m < nm → (if sits g m = true then f (st g m) m else 0) = sumI (fun c => if g 12 m = nI c then f c m else 0) nc := fun m hm => by
    rcases hI.nor12 hm with q | ⟨c, hc, q⟩
    · rw [if_neg (fun z => sits_ne z q), sumI_zero]
      intro c hc
      rw [if_neg]
      intro z
      rw [q] at z
      exact nI_ne_m1 (by omega) z.symm
    · have hs : sits g m = true := by unfold sits; rw [q, decide_eq_false (nI_ne_m1 (by omega))]; rfl
      rw [if_pos hs, sumI_one (m := c) hc, if_pos q]
      · unfold st; rw [q, nI_clamp (by omega)]
      · intro k hk hne
        rw [if_neg]
        intro z
        exact hne (nI_inj (by omega) (by omega) (z.symm.trans q))
  rw [sumI_congr (fun k hk => (e1 k hk)), sumI_congr (f := fun m => sumI (fun c => if g 12 m = nI c then f c m else 0) nc) (fun k hk => e2 k hk), sumI_swap]
/-- after some have played -/
def clP (g : LG) (S T : Nat → Bool) (a b : Int32) : LG := fun j k =>
  if j = 10 then (if S k then g 10 k + keptC g (st g k) k else g 10 k) else if j = 13 then (if S k then g 13 k + 1 else g 13 k)
  else if j = 5 then (if T k then g 5 k + fit g k (who g k) else g 5 k) else if j = 14 then (if k = 1 then g 14 1 + a else if k = 3 then g 14 3 + b else g 14 k) else g j k
theorem clP_step {g : LG} {S T S' T' : Nat → Bool} {a b : Int32} {c m : Nat} (hS : S m = false) (hT : T c = false) (hs : st g m = c) (hw : who g c = m) (eS : ∀ k, S' k = (S k || decide (k = m))) (eT : ∀ k, T' k = (T k || decide (k = c))) : playG (clP g S T a b) c m = clP g S' T' (a + payC g c m) (b + (payC g c m - keptC g c m)) := by
  have r : ∀ j, j ≠ 5 ∧ j ≠ 10 ∧ j ≠ 13 ∧ j ≠ 14 → clP g S T a b j = g j := fun j h => funext fun k => by
    unfold clP
    rw [if_neg h.2.1, if_neg h.2.2.1, if_neg h.1, if_neg h.2.2.2]
  have ef : fit (clP g S T a b) = fit g := fit_congr (r 0 (by decide)) (r 1 (by decide)) (r 7 (by decide)) (r 8 (by decide))
  have e10 : clP g S T a b 10 m = g 10 m := by show (if S m = true then _ else _) = _; rw [hS]; rfl
  have e13 : clP g S T a b 13 m = g 13 m := by show (if S m = true then _ else _) = _; rw [hS]; rfl
  have e5 : clP g S T a b 5 c = g 5 c := by show (if T c = true then _ else _) = _; rw [hT]; rfl
  have e1 : clP g S T a b 14 1 = g 14 1 + a := rfl
  have e3 : clP g S T a b 14 3 = g 14 3 + b := rfl
  have ep : payC (clP g S T a b) c m = payC g c m := by unfold payC; rw [ef]
  have ek : keptC (clP g S T a b) c m = keptC g c m := by unfold keptC; rw [ep, e10]
  unfold playG
  rw [ep, ek, ef, e10, e13, e5, e1, e3, Int32.add_assoc, Int32.add_assoc]
  funext j k
  simp only [gu_r]
  by_cases j5 : j = 5
  · subst j5
    simp only [clP, eT k]
    by_cases q : k = c
    · subst q; simp [hw]
    · simp [q]
  · by_cases j10 : j = 10
    · subst j10
      simp only [clP, eS k]
      by_cases q : k = m
      · subst q; simp [hs]
      · simp [q]
    · by_cases j13 : j = 13
      · subst j13
        simp only [clP, eS k]
        by_cases q : k = m
        · subst q; simp
        · simp [q]
      · by_cases j14 : j = 14
        · subst j14
          simp only [clP]
          by_cases q : k = 1
          · subst q; simp
          · by_cases q3 : k = 3
            · subst q3; simp
            · simp [q, q3]
        · simp [clP, j5, j10, j13, j14]
theorem clP_nil {g : LG} : clP g (fun _ => false) (fun _ => false) 0 0 = g := by
  funext j k
  unfold clP
  by_cases j5 : j = 5
  · subst j5; simp
  · by_cases j10 : j = 10
    · subst j10; simp
    · by_cases j13 : j = 13
      · subst j13; simp
      · by_cases j14 : j = 14
        · subst j14
          by_cases q : k = 1
          · subst q; simp
          · by_cases q3 : k = 3
            · subst q3; simp
            · simp [q, q3]
        · simp [j5, j10, j13, j14]
theorem playC_cl {g : LG} {nc nm n i : Nat} (hI : Inv g nc nm n) (hi : i ≤ nc) : playC g i = clP g (fun k => decide (k < nm) && sits g k && decide (st g k < i)) (fun k => decide (k < i) && taken g k) (sumI (fun c => if taken g c = true then payC g c (who g c) else 0) i) (sumI (fun c => if taken g c = true then payC g c (who g c) - keptC g c (who g c) else 0) i) := by
  have h10 := hI.c10
  have h20 := hI.m10
  induction i with
  | zero =>
    have e1 : (fun k => decide (k < nm) && sits g k && decide (st g k < 0)) = fun _ => false := by funext k; simp
    have e2 : (fun k => decide (k < 0) && taken g k) = fun _ => false := by funext k; simp
    rw [e1, e2]
    exact clP_nil.symm
  | succ i ih =>
    have ih := ih (by omega)
    have ecp : playC g (i + 1) = if taken g i = true then playG (playC g i) i (who g i) else playC g i := rfl
    rw [ecp, ih]
    show _ = clP g _ _ (sumI _ i + (if taken g i = true then _ else _)) (sumI _ i + (if taken g i = true then _ else _))
    rcases hI.sit (show i < nc by omega) with q | ⟨m, hm, q1, q2⟩
    · have ht : taken g i = false := by unfold taken; rw [q]; rfl
      rw [ht, if_neg (by decide), if_neg (by decide), if_neg (by decide), Int32.add_zero, Int32.add_zero]
      have e1 : (fun k => decide (k < nm) && sits g k && decide (st g k < i + 1)) = fun k => decide (k < nm) && sits g k && decide (st g k < i) := by
        funext k
        by_cases hk : k < nm
        · cases hs : sits g k with
          | false => simp
          | true =>
            obtain ⟨c, hc, ec⟩ := (hI.nor12 hk).resolve_left (sits_ne hs)
            have es : st g k = c := by unfold st; rw [ec, nI_clamp (by omega)]
            have : ¬ c = i := fun z => by
              subst z
              have := hI.ef.1 k c hk hc ec
              rw [q] at this
              exact nI_ne_m1 (by omega) this.symm
            have e : (c < i + 1) = (c < i) := by apply propext; omega
            simp only [es, e]
        · simp [hk]
      have e2 : (fun k => decide (k < i + 1) && taken g k) = fun k => decide (k < i) && taken g k := by
        funext k
        by_cases hk : k = i
        · subst hk; simp [ht]
        · have e : (k < i + 1) = (k < i) := by apply propext; omega
          simp only [e]
      rw [e1, e2]
    · have ht : taken g i = true := taken_of q1 (by omega)
      have hw : who g i = m := by unfold who; rw [q1, nI_clamp (by omega)]
      have hst : st g m = i := by unfold st; rw [q2, nI_clamp (by omega)]
      have hsm : sits g m = true := by unfold sits; rw [q2, decide_eq_false (nI_ne_m1 (by omega))]; rfl
      rw [ht, if_pos rfl, if_pos rfl, if_pos rfl, hw]
      refine clP_step (by simp [hst]) (by simp) hst hw (fun k => ?_) (fun k => ?_)
      · by_cases hk : k < nm
        · cases hs : sits g k with
          | false =>
            have : ¬ k = m := fun z => by rw [z, hsm] at hs; cases hs
            simp [this]
          | true =>
            obtain ⟨c, hc, ec⟩ := (hI.nor12 hk).resolve_left (sits_ne hs)
            have es : st g k = c := by unfold st; rw [ec, nI_clamp (by omega)]
            by_cases z : k = m
            · subst z; simp [hst, hk]
            · have : ¬ c = i := fun y => by
                subst y
                have := hI.ef.1 k c hk hc ec
                exact z (nI_inj (by omega) (by omega) (this.symm.trans q1))
              have e : (c < i + 1) = (c < i) := by apply propext; omega
              simp [es, e, z]
        · have : ¬ k = m := by omega
          simp [hk, this]
      · by_cases hk : k = i
        · subst hk; simp [ht]
        · have e : (k < i + 1) = (k < i) := by apply propext; omega
          simp [e, hk]
theorem musP_cl {g : LG} {nc nm n i : Nat} (hI : Inv g nc nm n) (hi : i ≤ nm) : musP g i = clP g (fun k => decide (k < i) && sits g k) (fun k => decide (k < nc) && taken g k && decide (who g k < i)) (sumI (fun m => if sits g m = true then payC g (st g m) m else 0) i) (sumI (fun m => if sits g m = true then payC g (st g m) m - keptC g (st g m) m else 0) i) := by
  have h10 := hI.c10
  have h20 := hI.m10
  induction i with
  | zero =>
    have e1 : (fun k => decide (k < nc) && taken g k && decide (who g k < 0)) = fun _ => false := by funext k; simp
    have e2 : (fun k => decide (k < 0) && sits g k) = fun _ => false := by funext k; simp
    rw [e1, e2]
    exact clP_nil.symm
  | succ i ih =>
    have ih := ih (by omega)
    have ecp : musP g (i + 1) = if g 12 i = -1 then musP g i else playG (musP g i) (st g i) i := rfl
    rw [ecp, ih]
    show _ = clP g _ _ (sumI _ i + (if sits g i = true then _ else _)) (sumI _ i + (if sits g i = true then _ else _))
    rcases hI.nor12 (show i < nm by omega) with q | ⟨c, hc, q⟩
    · have ht : sits g i = false := by unfold sits; rw [q]; rfl
      rw [if_pos q, ht, if_neg (by decide), if_neg (by decide), Int32.add_zero, Int32.add_zero]
      have e1 : (fun k => decide (k < nc) && taken g k && decide (who g k < i + 1)) = fun k => decide (k < nc) && taken g k && decide (who g k < i) := by
        funext k
        by_cases hk : k < nc
        · cases hs : taken g k with
          | false => simp
          | true =>
            rcases hI.sit hk with y | ⟨m, hm, y1, y2⟩
            · exact absurd y (taken_ne hs)
            · have es : who g k = m := by unfold who; rw [y1, nI_clamp (by omega)]
              have : ¬ m = i := fun z => by
                subst z
                rw [q] at y2
                exact nI_ne_m1 (show k < 2 ^ 31 by omega) y2.symm
              have e : (m < i + 1) = (m < i) := by apply propext; omega
              simp only [es, e]
        · simp [hk]
      have e2 : (fun k => decide (k < i + 1) && sits g k) = fun k => decide (k < i) && sits g k := by
        funext k
        by_cases hk : k = i
        · subst hk; simp [ht]
        · have e : (k < i + 1) = (k < i) := by apply propext; omega
          simp only [e]
      rw [e1, e2]
    · have h6 := hI.ef.1 i c (by omega) hc q
      have ht : taken g c = true := taken_of h6 (by omega)
      have hw : who g c = i := by unfold who; rw [h6, nI_clamp (by omega)]
      have hst : st g i = c := by unfold st; rw [q, nI_clamp (by omega)]
      have hsm : sits g i = true := by unfold sits; rw [q, decide_eq_false (nI_ne_m1 (by omega))]; rfl
      rw [if_neg (by rw [q]; exact nI_ne_m1 (by omega)), hsm, if_pos rfl, if_pos rfl, hst]
      refine clP_step (by simp) (by simp [hw]) hst hw (fun k => ?_) (fun k => ?_)
      · by_cases hk : k = i
        · subst hk; simp [hsm]
        · have e : (k < i + 1) = (k < i) := by apply propext; omega
          simp [e, hk]
      · by_cases hk : k < nc
        · cases hs : taken g k with
          | false =>
            have : ¬ k = c := fun z => by rw [z, ht] at hs; cases hs
            simp [this]
          | true =>
            rcases hI.sit hk with y | ⟨m, hm, y1, y2⟩
            · exact absurd y (taken_ne hs)
            · have es : who g k = m := by unfold who; rw [y1, nI_clamp (by omega)]
              by_cases z : k = c
              · subst z; simp [hw, hk]
              · have : ¬ m = i := fun y => by
                  subst y
                  exact z (nI_inj (by omega) (by omega) (y2.symm.trans q))
                have e : (m < i + 1) = (m < i) := by apply propext; omega
                simp [es, e, z]
        · have : ¬ k = c := by omega
          simp [hk, this]
theorem musP_playC {g : LG} {nc nm n : Nat} (hI : Inv g nc nm n) : musP g nm = playC g nc := by
  have h10 := hI.c10
  have h20 := hI.m10
  rw [musP_cl hI (Nat.le_refl nm), playC_cl hI (Nat.le_refl nc), sum_pair hI (fun c m => payC g c m), sum_pair hI (fun c m => payC g c m - keptC g c m)]
  have e1 : (fun k => decide (k < nm) && sits g k) = fun k => decide (k < nm) && sits g k && decide (st g k < nc) := by
    funext k
    by_cases hk : k < nm
    · cases hs : sits g k with
      | false => simp
      | true =>
        obtain ⟨c, hc, ec⟩ := (hI.nor12 hk).resolve_left (sits_ne hs)
        have es : st g k = c := by unfold st; rw [ec, nI_clamp (by omega)]
        simp [es, hc]
    · simp [hk]
  have e2 : (fun k => decide (k < nc) && taken g k && decide (who g k < nm)) = fun k => decide (k < nc) && taken g k := by
    funext k
    by_cases hk : k < nc
    · cases hs : taken g k with
      | false => simp
      | true =>
        rcases hI.sit hk with y | ⟨m, hm, y1, y2⟩
        · exact absurd y (taken_ne hs)
        · have es : who g k = m := by unfold who; rw [y1, nI_clamp (by omega)]
          simp [es, hm]
    · simp [hk]
  rw [e2, e1]
theorem musS_sum {g : LG} {i : Nat} : musS g i = sumI (fun m => if sits g m = true then fit g (st g m) m else 0) i := by
  induction i with
  | zero => rfl
  | succ i ih =>
    show (if sits g i = true then musS g i + fit g (st g i) i else musS g i) = sumI _ i + (if sits g i = true then fit g (st g i) i else 0)
    rw [ih]
    split
    · rfl
    · rw [Int32.add_zero]
theorem concert_eq {g : LG} {nc nm n : Nat} {w : Int32} (hI : Inv g nc nm n) : wearN (musP g nm) w nc = (conC g w nc).1 ∧ musS g nm = (conC g w nc).2 := by
  obtain ⟨h1, h2, h3⟩ := conC_split (w := w) hI (Nat.le_refl nc)
  refine ⟨funext fun j => funext fun k => ?_, ?_⟩
  · by_cases hj : jW j
    · rw [h1 j k hj, wearN_split hI (Nat.le_refl nc) musP_P j k hj]
    · rw [h2 j k hj, ← musP_playC hI, wearN_off (by unfold jW at hj; omega)]
  · rw [h3, musS_sum, sum_pair hI (fun c m => fit g c m)]
theorem raise_pos {g : LG} {nc nm n : Nat} (hI : Inv g nc nm n) (h : ¬ g 14 0 < 2) : ¬ g 14 0 - 2 < 0 := by
  obtain ⟨z, -, hz, ez⟩ := hI.lg
  have hle := hI.le
  rw [ez, Int32.lt_iff_toInt_lt, nI_toInt (by omega)] at h
  have h : ¬ ((z : Int) < 2) := h
  rw [ez, show (2 : Int32) = nI 2 from rfl, nI_sub (by omega)]
  exact nI_pos (by omega)
theorem tier_ne {t : Int32} (h : rng t 0 2) (hne : ¬ t = 2) : ¬ 2 ≤ t := by
  obtain ⟨k, -, hk, rfl⟩ := h
  rcases (show k = 0 ∨ k = 1 ∨ k = 2 by omega) with rfl | rfl | rfl
  · decide
  · decide
  · exact absurd rfl hne
theorem tier_pos {t : Int32} (h : rng t 0 2) : ¬ t + 1 < 0 := by
  obtain ⟨k, -, hk, rfl⟩ := h
  rw [nI_1]
  exact nI_pos (by omega)
theorem lack_iff {t m : Int32} {k : Nat} (ht : rng t 0 2) (hm : rng m 0 k) (hk : k < 2 ^ 30) : 0 < 20 * (t + 1) - m ↔ m < 20 * (t + 1) := by
  obtain ⟨a, -, ha, rfl⟩ := ht
  obtain ⟨b, -, hb, rfl⟩ := hm
  have e : 20 * (nI a + 1) = nI (20 * (a + 1)) := by rw [nI_1, show (20 : Int32) = nI 20 from rfl, nI_mul]
  rw [e, nI_ltI (by omega) (by omega)]
  by_cases q : b < 20 * (a + 1)
  · rw [nI_sub (by omega)]
    exact ⟨fun _ => q, fun _ => nI_lt (a := 0) (by omega) (by omega)⟩
  · refine ⟨fun h => ?_, fun h => absurd h q⟩
    have e2 : nI (20 * (a + 1)) - nI b = -nI (b - 20 * (a + 1)) := by
      rw [← nI_sub (by omega), Int32.neg_sub]
    rw [e2, Int32.lt_iff_toInt_lt, Int32.toInt_neg, nI_toInt (by omega)] at h
    have h : (0 : Int) < Int.bmod (-((b - 20 * (a + 1) : Nat) : Int)) (2 ^ 32) := h
    rw [Int.bmod_eq_of_le (by omega) (by omega)] at h
    omega
def rm_X11_bid : Room := { frames := 3, cells := 0, slots := 0, locals := 64 }
theorem kv_X11_bid : KV yX11_bid RX11 cX11_bid 4 (some .int) 2 := ⟨⟨gw_639, gw_640, gw_5, gw_641⟩, by decide +kernel⟩
set_option maxRecDepth 100000 in
set_option maxHeartbeats 4000000 in
theorem c_X11_bid (E : ZE) (M : Mem) (g : LG) (hg : gF (M 20 0) = g) (nc nm n : Nat) (hI : Inv g nc nm n) (rs : Rs) (hR : RSm M rs) (hs : List LG) (hH : HM M hs) (tx : Bool) (htx : M 32 0 11 = zb tx) (y v : Int32) : Mt E yX11_bid cX11_bid 4 (some .int) rm_X11_bid [.ref (za E 32 0), .int y, .int v] M (RI (fun v0 M1 => MX M g hs tx (oBid g rs y v) v0 M1)) := by
  have hnc := hI.nc; have hnm := hI.nm; have hn := hI.c10; have hn2 := hI.m10
  refine z_met (own := RX11) (lv := [(0, .ref (za E 32 0)), (1, .int y), (2, .int v)]) (by decide) rfl (Nat.le_of_ble_eq_true rfl) rfl (fun gg X Y => ?_)
  refine z_aload_n X (pc := 0) 0 dX11_bid_0 rfl rfl ?_
  refine z_iload_n X (pc := 1) 1 dX11_bid_1 rfl rfl ?_
  refine z_callV X (pc := 2) (rest := []) kv_X11_isMusician (c_X11_isMusician E M g (And.left (SF.rf hg)) nm hnm (by omega) y) zk_32_0 (zc_32_0 E _) rfl rfl gw_350 (by decide) rfl rfl (Nat.le_of_ble_eq_true rfl) dX11_bid_2 (zk_i ?_)
  refine z_bif_ne X (pc := 5) (tgt := 12) dX11_bid_5 (by decide) (fun c5 => ?_) (fun c5 => ?_)
  · obtain ⟨m, hm, rfl⟩ := inR_of c5 (by omega)
    refine z_iload_n X (pc := 12) 2 dX11_bid_12 rfl rfl ?_
    refine z_iconst X (pc := 13) (v := 0) dX11_bid_13 (by decide) ?_
    refine z_bipush X (pc := 14) (v := 99) dX11_bid_14 (by decide) ?_
    refine z_callS X (pc := 16) (rest := []) ks_X11_isBetween (c_X11_isBetween E M v 0 99) gw_240 (by decide) rfl rfl (Nat.le_of_ble_eq_true rfl) dX11_bid_16 (zk_i ?_)
    refine z_bif_ne X (pc := 19) (tgt := 26) dX11_bid_19 (by decide) (fun c19 => ?_) (fun c19 => ?_)
    · refine z_aload_n X (pc := 26) 0 dX11_bid_26 rfl rfl ?_
      refine z_aload_n X (pc := 27) 0 dX11_bid_27 rfl rfl ?_
      refine z_iload_n X (pc := 28) 1 dX11_bid_28 rfl rfl ?_
      refine z_iconst X (pc := 29) (v := 5) dX11_bid_29 (by decide) ?_
      refine z_callV X (pc := 30) (rest := [.ref (za E 32 0)]) kv_X11_of (c_X11_of E M g (And.left (SF.rf hg)) m 5 (show m < 10 by omega) (by decide)) zk_32_0 (zc_32_0 E _) rfl rfl gw_354 (by decide) rfl rfl (Nat.le_of_ble_eq_true rfl) dX11_bid_30 (zk_i ?_)
      rcases (show nOr (g 12 m) 10 from ((hI.nor12 hm).le (by omega))) with hp33 | ⟨k33, hk33, hp33⟩
      · refine z_top (y := ((-1))) hp33 ?_
        refine z_if_ge X (pc := 33) (tgt := 40) dX11_bid_33 (by decide) (fun c33 => ?_) (fun c33 => ?_)
        · exact absurd c33 (by decide)
        · refine z_iconst X (pc := 36) (v := 1) dX11_bid_36 (by decide) ?_
          refine z_goto X (pc := 37) (tgt := 41) dX11_bid_37 (by decide) ?_
          refine z_bipush X (pc := 41) (v := 8) dX11_bid_41 (by decide) ?_
          refine z_aload_n X (pc := 43) 0 dX11_bid_43 rfl rfl ?_
          refine z_callV X (pc := 44) (rest := [.int 8, .int 1, .ref (za E 32 0)]) kv_X11_sitting (c_X11_sitting E M g (And.left (SF.rf hg)) nm hnm (by omega) (fun m hm => (hI.nor12 hm).le (by omega))) zk_32_0 (zc_32_0 E _) rfl rfl gw_474 (by decide) rfl rfl (Nat.le_of_ble_eq_true rfl) dX11_bid_44 (zk_i ?_)
          refine z_callV X (pc := 47) (rest := []) kv_X11_refuse (c_X11_refuse E M 8 (nI (cntB (sits g) nm))) zk_32_0 (zc_32_0 E _) rfl rfl gw_243 (by decide) rfl rfl (Nat.le_of_ble_eq_true rfl) dX11_bid_47 (zk_ri (fun v_3 M_1 h_2 => ?_))
          refine z_top (y := 1) h_2.1 ?_
          refine z_if_ne X (pc := 50) (tgt := 83) dX11_bid_50 (by decide) (fun c50 => ?_) (fun c50 => ?_)
          · refine z_sipush X (pc := 83) (v := (-1014)) dX11_bid_83 (by decide) ?_
            exact z_iret X Y dX11_bid_86 ⟨_, rfl, MX.refuse (rs := [(8, (nI (cntB (sits g) nm)))]) hg hH h_2.2 (by decide) (by rw [oBid_in hI hm]; simp [oBidN, nSit, sits, i32_nlt, hI.cNe, hI.mNe, gu_r, c19, hp33, c33, (i32_nle.mp c33), c50]) (Nat.le_of_ble_eq_true rfl)⟩
          · exact absurd c50 (by decide)
      · refine z_top (y := (nI k33)) hp33 ?_
        refine z_if_ge X (pc := 33) (tgt := 40) dX11_bid_33 (by decide) (fun c33 => ?_) (fun c33 => ?_)
        · refine z_iconst X (pc := 40) (v := 0) dX11_bid_40 (by decide) ?_
          refine z_bipush X (pc := 41) (v := 8) dX11_bid_41 (by decide) ?_
          refine z_aload_n X (pc := 43) 0 dX11_bid_43 rfl rfl ?_
          refine z_callV X (pc := 44) (rest := [.int 8, .int 0, .ref (za E 32 0)]) kv_X11_sitting (c_X11_sitting E M g (And.left (SF.rf hg)) nm hnm (by omega) (fun m hm => (hI.nor12 hm).le (by omega))) zk_32_0 (zc_32_0 E _) rfl rfl gw_474 (by decide) rfl rfl (Nat.le_of_ble_eq_true rfl) dX11_bid_44 (zk_i ?_)
          refine z_callV X (pc := 47) (rest := []) kv_X11_refuse (c_X11_refuse_no E M 8 (nI (cntB (sits g) nm))) zk_32_0 (zc_32_0 E _) rfl rfl gw_243 (by decide) rfl rfl (Nat.le_of_ble_eq_true rfl) dX11_bid_47 (zk_i ?_)
          refine z_if_ne X (pc := 50) (tgt := 83) dX11_bid_50 (by decide) (fun c50 => ?_) (fun c50 => ?_)
          · exact absurd c50 (by decide)
          · refine z_aload_n X (pc := 53) 0 dX11_bid_53 rfl rfl ?_
            refine z_aload_n X (pc := 54) 0 dX11_bid_54 rfl rfl ?_
            refine z_iload_n X (pc := 55) 1 dX11_bid_55 rfl rfl ?_
            refine z_iconst X (pc := 56) (v := 3) dX11_bid_56 (by decide) ?_
            refine z_callV X (pc := 57) (rest := [.ref (za E 32 0)]) kv_X11_of (c_X11_of E M g (And.left (SF.rf hg)) m 3 (show m < 10 by omega) (by decide)) zk_32_0 (zc_32_0 E _) rfl rfl gw_354 (by decide) rfl rfl (Nat.le_of_ble_eq_true rfl) dX11_bid_57 (zk_i ?_)
            refine z_iload_n X (pc := 60) 2 dX11_bid_60 rfl rfl ?_
            refine z_icmp_ge X (pc := 61) (tgt := 68) dX11_bid_61 (by decide) (fun c61 => ?_) (fun c61 => ?_)
            · refine z_iconst X (pc := 68) (v := 0) dX11_bid_68 (by decide) ?_
              refine z_bipush X (pc := 69) (v := 9) dX11_bid_69 (by decide) ?_
              refine z_aload_n X (pc := 71) 0 dX11_bid_71 rfl rfl ?_
              refine z_iload_n X (pc := 72) 1 dX11_bid_72 rfl rfl ?_
              refine z_iconst X (pc := 73) (v := 3) dX11_bid_73 (by decide) ?_
              refine z_callV X (pc := 74) (rest := [.int 9, .int 0, .ref (za E 32 0)]) kv_X11_of (c_X11_of E M g (And.left (SF.rf hg)) m 3 (show m < 10 by omega) (by decide)) zk_32_0 (zc_32_0 E _) rfl rfl gw_354 (by decide) rfl rfl (Nat.le_of_ble_eq_true rfl) dX11_bid_74 (zk_i ?_)
              refine z_callV X (pc := 77) (rest := []) kv_X11_refuse (c_X11_refuse_no E M 9 (g 10 m)) zk_32_0 (zc_32_0 E _) rfl rfl gw_243 (by decide) rfl rfl (Nat.le_of_ble_eq_true rfl) dX11_bid_77 (zk_i ?_)
              refine z_if_eq X (pc := 80) (tgt := 87) dX11_bid_80 (by decide) (fun c80 => ?_) (fun c80 => ?_)
              · refine z_aload_n X (pc := 87) 0 dX11_bid_87 rfl rfl ?_
                refine z_callV X (pc := 88) (rest := []) kv_X11_change (c_X11_change E M g (And.left (SF.rf hg)) hs hH tx htx) zk_32_0 (zc_32_0 E _) rfl rfl gw_248 (by decide) rfl rfl (Nat.le_of_ble_eq_true rfl) dX11_bid_88 (zk_rv (fun M_4 hC_5 => ?_))
                refine z_aload_n X (pc := 91) 0 dX11_bid_91 rfl rfl ?_
                refine z_iload_n X (pc := 92) 1 dX11_bid_92 rfl rfl ?_
                refine z_iconst X (pc := 93) (v := 4) dX11_bid_93 (by decide) ?_
                refine z_callV X (pc := 94) (rest := []) kv_X11_of (c_X11_of E M_4 g (And.left (SF.rf (hC_5.2.g20 hg))) m 4 (show m < 10 by omega) (by decide)) zk_32_0 (zc_32_0 E _) rfl rfl gw_354 (by decide) rfl rfl (Nat.le_of_ble_eq_true rfl) dX11_bid_94 (zk_i ?_)
                refine z_istore_n X (pc := 97) (lv1 := [(3, .int (g 11 m)), (0, .ref (za E 32 0)), (1, .int (nI m)), (2, .int v)]) dX11_bid_97 rfl (by decide) rfl ?_
                refine z_aload_n X (pc := 98) 1 dX11_bid_98 rfl rfl ?_
                refine z_iload_n X (pc := 99) 2 dX11_bid_99 rfl rfl ?_
                refine z_iconst X (pc := 100) (v := 4) dX11_bid_100 (by decide) ?_
                refine z_iload_n X (pc := 101) 3 dX11_bid_101 rfl rfl ?_
                refine z_callV X (pc := 102) (rest := []) kv_X11_put (c_X11_put E M_4 g (And.left (SF.rf (hC_5.2.g20 hg))) m 4 v (show m < 10 by omega) (by decide)) zk_32_0 (zc_32_0 E _) rfl rfl gw_284 (by decide) rfl rfl (Nat.le_of_ble_eq_true rfl) dX11_bid_102 (zk_rv (fun M_6 hS_7 => ?_))
                refine z_iload_n X (pc := 105) 0 dX11_bid_105 rfl rfl ?_
                exact z_iret X Y dX11_bid_106 ⟨_, rfl, MX.done hR hC_5 (And.left ((SF.rf (hC_5.2.g20 hg)).trans hS_7)) (SF.fq ((SF.rf (hC_5.2.g20 hg)).trans hS_7)) ((hI.mu m hm).2.2.2.2.1.lt (by decide)) (by rw [oBid_in hI hm]; simp [oBidN, nSit, sits, i32_nlt, hI.cNe, hI.mNe, gu_r, c19, hp33, nI_ne_m1 (show k33 < 2 ^ 31 by omega), nI_clamp (show k33 < 2 ^ 31 by omega), c33, c50, c61, (i32_nlt.mpr c61), c80])⟩
              · exact absurd (by decide) c80
            · refine z_iconst X (pc := 64) (v := 1) dX11_bid_64 (by decide) ?_
              refine z_goto X (pc := 65) (tgt := 69) dX11_bid_65 (by decide) ?_
              refine z_bipush X (pc := 69) (v := 9) dX11_bid_69 (by decide) ?_
              refine z_aload_n X (pc := 71) 0 dX11_bid_71 rfl rfl ?_
              refine z_iload_n X (pc := 72) 1 dX11_bid_72 rfl rfl ?_
              refine z_iconst X (pc := 73) (v := 3) dX11_bid_73 (by decide) ?_
              refine z_callV X (pc := 74) (rest := [.int 9, .int 1, .ref (za E 32 0)]) kv_X11_of (c_X11_of E M g (And.left (SF.rf hg)) m 3 (show m < 10 by omega) (by decide)) zk_32_0 (zc_32_0 E _) rfl rfl gw_354 (by decide) rfl rfl (Nat.le_of_ble_eq_true rfl) dX11_bid_74 (zk_i ?_)
              refine z_callV X (pc := 77) (rest := []) kv_X11_refuse (c_X11_refuse E M 9 (g 10 m)) zk_32_0 (zc_32_0 E _) rfl rfl gw_243 (by decide) rfl rfl (Nat.le_of_ble_eq_true rfl) dX11_bid_77 (zk_ri (fun v_10 M_8 h_9 => ?_))
              refine z_top (y := 1) h_9.1 ?_
              refine z_if_eq X (pc := 80) (tgt := 87) dX11_bid_80 (by decide) (fun c80 => ?_) (fun c80 => ?_)
              · exact absurd c80 (by decide)
              · refine z_sipush X (pc := 83) (v := (-1014)) dX11_bid_83 (by decide) ?_
                exact z_iret X Y dX11_bid_86 ⟨_, rfl, MX.refuse (rs := [(9, (g 10 m))]) hg hH h_9.2 (by decide) (by rw [oBid_in hI hm]; simp [oBidN, nSit, sits, i32_nlt, hI.cNe, hI.mNe, gu_r, c19, hp33, nI_ne_m1 (show k33 < 2 ^ 31 by omega), nI_clamp (show k33 < 2 ^ 31 by omega), c33, c50, c61, (i32_nle.mp c61), c80]) (Nat.le_of_ble_eq_true rfl)⟩
        · exact absurd (nI_pos' (by omega)) c33
    · refine z_sipush X (pc := 22) (v := (-1012)) dX11_bid_22 (by decide) ?_
      exact z_iret X Y dX11_bid_25 ⟨_, rfl, MX.same hg hH hR (by decide) (by rw [oBid_in hI hm]; simp [oBidN, nSit, sits, i32_nlt, hI.cNe, hI.mNe, gu_r, c19])⟩
  · refine z_sipush X (pc := 8) (v := (-1011)) dX11_bid_8 (by decide) ?_
    exact z_iret X Y dX11_bid_11 ⟨_, rfl, MX.same hg hH hR (by decide) (by simp [oBid, hI.cNe, hI.mNe, gu_r, c5])⟩

def rm_X11_highest : Room := { frames := 1, cells := 0, slots := 0, locals := 22 }
theorem kv_X11_highest : KV yX11_highest RX11 cX11_highest 5 (some .int) 1 := ⟨⟨gw_669, gw_670, gw_5, gw_671⟩, by decide +kernel⟩
set_option maxRecDepth 100000 in
set_option maxHeartbeats 4000000 in
theorem c_X11_highest (E : ZE) (M : Mem) (g : LG) (hg : gF (M 20 0) = g) (nc nm : Nat) (hnc : g 14 7 = nI nc) (hnm : g 14 8 = nI nm) (hn : nc ≤ 10) (hn2 : nm ≤ 10) (but : Int32) : Mt E yX11_highest cX11_highest 5 (some .int) rm_X11_highest [.ref (za E 32 0), .int but] M (PI (highB g but nm).1 M) := by
  refine z_met (own := RX11) (lv := [(0, .ref (za E 32 0)), (1, .int but)]) (by decide) rfl (Nat.le_of_ble_eq_true rfl) rfl (fun gg X Y => ?_)
  refine z_iconst X (pc := 0) (v := (-1)) dX11_highest_0 (by decide) ?_
  refine z_istore_n X (pc := 1) (lv1 := [(2, .int ((-1))), (0, .ref (za E 32 0)), (1, .int but)]) dX11_highest_1 rfl (by decide) rfl ?_
  refine z_iconst X (pc := 2) (v := 0) dX11_highest_2 (by decide) ?_
  refine z_istore_n X (pc := 3) (lv1 := [(3, .int 0), (2, .int ((-1))), (0, .ref (za E 32 0)), (1, .int but)]) dX11_highest_3 rfl (by decide) rfl ?_
  refine z_sub (lv' := [(3, .int (nI 0)), (2, .int ((highB g but 0).1)), (0, .ref (za E 32 0)), (1, .int but)]) [0, 1, 2, 3] rfl ?_
  refine z_loop (nm) 4 (σ := Unit) (fun i s => True) (fun i s => (M, [(3, .int (nI i)), (2, .int ((highB g but i).1)), (0, .ref (za E 32 0)), (1, .int but)])) ?_ 0 () (Nat.zero_le _) trivial
  intro i s hi4 hJ4 ih4
  show Z gg E M [(3, .int (nI i)), (2, .int ((highB g but i).1)), (0, .ref (za E 32 0)), (1, .int but)] 4 []
  refine z_iload_n X (pc := 4) 0 dX11_highest_4 rfl rfl ?_
  refine z_aload_n X (pc := 5) 2 dX11_highest_5 rfl rfl ?_
  refine z_get X (pc := 6) 0 zk_32_0 (zc_32_0 E _) rfl inlX11 (by decide) gw_138 rfl rfl dX11_highest_6 ?_
  refine z_bipush X (pc := 9) (v := 8) dX11_highest_9 (by decide) ?_
  refine z_iald X (pc := 11) (by decide) (show (8 : Int32) = nI 8 from rfl) (by decide) dX11_highest_11 ?_
  refine z_top (y := (nI nm)) ((SF.bk (SF.rf hg) (by decide)).trans hnm) ?_
  refine z_nicmp_ge X (pc := 12) (a := i) (b := nm) (tgt := 59) dX11_highest_12 (by decide) (by omega) (by omega) (fun c12 => ?_) (fun c12 => ?_)
  · refine z_iload_n X (pc := 59) 1 dX11_highest_59 rfl rfl ?_
    exact z_pret X Y dX11_highest_60 (by rw [show i = nm by omega]) rfl
  · refine z_iload_n X (pc := 15) 1 dX11_highest_15 rfl rfl ?_
    rcases (show nOr ((highB g but i).1) 10 from (highB_no.le (by omega))) with hp16 | ⟨k16, hk16, hp16⟩
    · refine z_top (y := ((-1))) hp16 ?_
      refine z_if_ge X (pc := 16) (tgt := 23) dX11_highest_16 (by decide) (fun c16 => ?_) (fun c16 => ?_)
      · exact absurd c16 (by decide)
      · have hq16 : (highB g but i).2 = 0 := highB_2a hp16
        refine z_iconst X (pc := 19) (v := 0) dX11_highest_19 (by decide) ?_
        refine z_goto X (pc := 20) (tgt := 29) dX11_highest_20 (by decide) ?_
        refine z_istore X (pc := 29) (lv1 := [(4, .int 0), (3, .int (nI i)), (2, .int ((highB g but i).1)), (0, .ref (za E 32 0)), (1, .int but)]) dX11_highest_29 (by decide) rfl ?_
        refine z_iload_n X (pc := 31) 1 dX11_highest_31 rfl rfl ?_
        refine z_iload_n X (pc := 32) 4 dX11_highest_32 rfl rfl ?_
        refine z_icmp_eq X (pc := 33) (tgt := 51) dX11_highest_33 (by decide) (fun c33 => ?_) (fun c33 => ?_)
        · refine z_iload_n X (pc := 51) 2 dX11_highest_51 rfl rfl ?_
          refine z_istore_n X (pc := 52) (lv1 := [(2, .int ((highB g but i).1)), (4, .int 0), (3, .int (nI i)), (0, .ref (za E 32 0)), (1, .int but)]) dX11_highest_52 rfl (by decide) rfl ?_
          refine z_iinc X (pc := 53) (v := (nI (i + 1))) (lv1 := [(3, .int (nI (i + 1))), (2, .int ((highB g but i).1)), (4, .int 0), (0, .ref (za E 32 0)), (1, .int but)]) 2 dX11_highest_53 rfl (nI_1 _) (by decide) rfl ?_
          refine z_goto X (pc := 56) (tgt := 4) dX11_highest_56 (by decide) ?_
          refine z_sub (lv' := [(3, .int (nI (i + 1))), (2, .int ((highB g but i).1)), (0, .ref (za E 32 0)), (1, .int but)]) [0, 1, 3, 4] rfl ?_
          refine z_eq (lv' := [(3, .int (nI (i + 1))), (2, .int ((highB g but (i + 1)).1)), (0, .ref (za E 32 0)), (1, .int but)]) (by simp [highB, c12, hp16, c16, hq16, c33]) rfl ?_
          exact ih4 () (by omega) trivial
        · refine z_aload_n X (pc := 36) 3 dX11_highest_36 rfl rfl ?_
          refine z_iload_n X (pc := 37) 1 dX11_highest_37 rfl rfl ?_
          refine z_iconst X (pc := 38) (v := 4) dX11_highest_38 (by decide) ?_
          refine z_callV X (pc := 39) (rest := []) kv_X11_of (c_X11_of E M g (And.left (SF.rf hg)) i 4 (show i < 10 by omega) (by decide)) zk_32_0 (zc_32_0 E _) rfl rfl gw_354 (by decide) rfl rfl (Nat.le_of_ble_eq_true rfl) dX11_highest_39 (zk_i ?_)
          refine z_iload X (pc := 42) 0 dX11_highest_42 rfl ?_
          refine z_icmp_le X (pc := 44) (tgt := 51) dX11_highest_44 (by decide) (fun c44 => ?_) (fun c44 => ?_)
          · refine z_iload_n X (pc := 51) 2 dX11_highest_51 rfl rfl ?_
            refine z_istore_n X (pc := 52) (lv1 := [(2, .int ((highB g but i).1)), (4, .int 0), (3, .int (nI i)), (0, .ref (za E 32 0)), (1, .int but)]) dX11_highest_52 rfl (by decide) rfl ?_
            refine z_iinc X (pc := 53) (v := (nI (i + 1))) (lv1 := [(3, .int (nI (i + 1))), (2, .int ((highB g but i).1)), (4, .int 0), (0, .ref (za E 32 0)), (1, .int but)]) 2 dX11_highest_53 rfl (nI_1 _) (by decide) rfl ?_
            refine z_goto X (pc := 56) (tgt := 4) dX11_highest_56 (by decide) ?_
            refine z_sub (lv' := [(3, .int (nI (i + 1))), (2, .int ((highB g but i).1)), (0, .ref (za E 32 0)), (1, .int but)]) [0, 1, 3, 4] rfl ?_
            refine z_eq (lv' := [(3, .int (nI (i + 1))), (2, .int ((highB g but (i + 1)).1)), (0, .ref (za E 32 0)), (1, .int but)]) (by simp [highB, c12, hp16, c16, hq16, c33, c44]) rfl ?_
            exact ih4 () (by omega) trivial
          · refine z_iload_n X (pc := 47) 1 dX11_highest_47 rfl rfl ?_
            refine z_goto X (pc := 48) (tgt := 52) dX11_highest_48 (by decide) ?_
            refine z_istore_n X (pc := 52) (lv1 := [(2, .int (nI i)), (4, .int 0), (3, .int (nI i)), (0, .ref (za E 32 0)), (1, .int but)]) dX11_highest_52 rfl (by decide) rfl ?_
            refine z_iinc X (pc := 53) (v := (nI (i + 1))) (lv1 := [(3, .int (nI (i + 1))), (2, .int (nI i)), (4, .int 0), (0, .ref (za E 32 0)), (1, .int but)]) 2 dX11_highest_53 rfl (nI_1 _) (by decide) rfl ?_
            refine z_goto X (pc := 56) (tgt := 4) dX11_highest_56 (by decide) ?_
            refine z_sub (lv' := [(3, .int (nI (i + 1))), (2, .int (nI i)), (0, .ref (za E 32 0)), (1, .int but)]) [0, 1, 3, 4] rfl ?_
            refine z_eq (lv' := [(3, .int (nI (i + 1))), (2, .int ((highB g but (i + 1)).1)), (0, .ref (za E 32 0)), (1, .int but)]) (by simp [highB, c12, hp16, c16, hq16, c33, c44]) rfl ?_
            exact ih4 () (by omega) trivial
    · refine z_top (y := (nI k16)) hp16 ?_
      refine z_if_ge X (pc := 16) (tgt := 23) dX11_highest_16 (by decide) (fun c16 => ?_) (fun c16 => ?_)
      · have hq16 : (highB g but i).2 = g 11 k16 := highB_2b hp16 (by omega)
        refine z_aload_n X (pc := 23) 2 dX11_highest_23 rfl rfl ?_
        refine z_iload_n X (pc := 24) 1 dX11_highest_24 rfl rfl ?_
        refine z_top (y := (nI k16)) hp16 ?_
        refine z_iconst X (pc := 25) (v := 4) dX11_highest_25 (by decide) ?_
        refine z_callV X (pc := 26) (rest := []) kv_X11_of (c_X11_of E M g (And.left (SF.rf hg)) k16 4 (show k16 < 10 by omega) (by decide)) zk_32_0 (zc_32_0 E _) rfl rfl gw_354 (by decide) rfl rfl (Nat.le_of_ble_eq_true rfl) dX11_highest_26 (zk_i ?_)
        refine z_istore X (pc := 29) (lv1 := [(4, .int (g 11 k16)), (3, .int (nI i)), (2, .int ((highB g but i).1)), (0, .ref (za E 32 0)), (1, .int but)]) dX11_highest_29 (by decide) rfl ?_
        refine z_iload_n X (pc := 31) 1 dX11_highest_31 rfl rfl ?_
        refine z_iload_n X (pc := 32) 4 dX11_highest_32 rfl rfl ?_
        refine z_icmp_eq X (pc := 33) (tgt := 51) dX11_highest_33 (by decide) (fun c33 => ?_) (fun c33 => ?_)
        · refine z_iload_n X (pc := 51) 2 dX11_highest_51 rfl rfl ?_
          refine z_istore_n X (pc := 52) (lv1 := [(2, .int ((highB g but i).1)), (4, .int (g 11 k16)), (3, .int (nI i)), (0, .ref (za E 32 0)), (1, .int but)]) dX11_highest_52 rfl (by decide) rfl ?_
          refine z_iinc X (pc := 53) (v := (nI (i + 1))) (lv1 := [(3, .int (nI (i + 1))), (2, .int ((highB g but i).1)), (4, .int (g 11 k16)), (0, .ref (za E 32 0)), (1, .int but)]) 2 dX11_highest_53 rfl (nI_1 _) (by decide) rfl ?_
          refine z_goto X (pc := 56) (tgt := 4) dX11_highest_56 (by decide) ?_
          refine z_sub (lv' := [(3, .int (nI (i + 1))), (2, .int ((highB g but i).1)), (0, .ref (za E 32 0)), (1, .int but)]) [0, 1, 3, 4] rfl ?_
          refine z_eq (lv' := [(3, .int (nI (i + 1))), (2, .int ((highB g but (i + 1)).1)), (0, .ref (za E 32 0)), (1, .int but)]) (by simp [highB, c12, hp16, nI_ne_m1 (show k16 < 2 ^ 31 by omega), nI_clamp (show k16 < 2 ^ 31 by omega), c16, hq16, c33]) rfl ?_
          exact ih4 () (by omega) trivial
        · refine z_aload_n X (pc := 36) 3 dX11_highest_36 rfl rfl ?_
          refine z_iload_n X (pc := 37) 1 dX11_highest_37 rfl rfl ?_
          refine z_iconst X (pc := 38) (v := 4) dX11_highest_38 (by decide) ?_
          refine z_callV X (pc := 39) (rest := []) kv_X11_of (c_X11_of E M g (And.left (SF.rf hg)) i 4 (show i < 10 by omega) (by decide)) zk_32_0 (zc_32_0 E _) rfl rfl gw_354 (by decide) rfl rfl (Nat.le_of_ble_eq_true rfl) dX11_highest_39 (zk_i ?_)
          refine z_iload X (pc := 42) 0 dX11_highest_42 rfl ?_
          refine z_icmp_le X (pc := 44) (tgt := 51) dX11_highest_44 (by decide) (fun c44 => ?_) (fun c44 => ?_)
          · refine z_iload_n X (pc := 51) 2 dX11_highest_51 rfl rfl ?_
            refine z_istore_n X (pc := 52) (lv1 := [(2, .int ((highB g but i).1)), (4, .int (g 11 k16)), (3, .int (nI i)), (0, .ref (za E 32 0)), (1, .int but)]) dX11_highest_52 rfl (by decide) rfl ?_
            refine z_iinc X (pc := 53) (v := (nI (i + 1))) (lv1 := [(3, .int (nI (i + 1))), (2, .int ((highB g but i).1)), (4, .int (g 11 k16)), (0, .ref (za E 32 0)), (1, .int but)]) 2 dX11_highest_53 rfl (nI_1 _) (by decide) rfl ?_
            refine z_goto X (pc := 56) (tgt := 4) dX11_highest_56 (by decide) ?_
            refine z_sub (lv' := [(3, .int (nI (i + 1))), (2, .int ((highB g but i).1)), (0, .ref (za E 32 0)), (1, .int but)]) [0, 1, 3, 4] rfl ?_
            refine z_eq (lv' := [(3, .int (nI (i + 1))), (2, .int ((highB g but (i + 1)).1)), (0, .ref (za E 32 0)), (1, .int but)]) (by simp [highB, c12, hp16, nI_ne_m1 (show k16 < 2 ^ 31 by omega), nI_clamp (show k16 < 2 ^ 31 by omega), c16, hq16, c33, c44]) rfl ?_
            exact ih4 () (by omega) trivial
          · refine z_iload_n X (pc := 47) 1 dX11_highest_47 rfl rfl ?_
            refine z_goto X (pc := 48) (tgt := 52) dX11_highest_48 (by decide) ?_
            refine z_istore_n X (pc := 52) (lv1 := [(2, .int (nI i)), (4, .int (g 11 k16)), (3, .int (nI i)), (0, .ref (za E 32 0)), (1, .int but)]) dX11_highest_52 rfl (by decide) rfl ?_
            refine z_iinc X (pc := 53) (v := (nI (i + 1))) (lv1 := [(3, .int (nI (i + 1))), (2, .int (nI i)), (4, .int (g 11 k16)), (0, .ref (za E 32 0)), (1, .int but)]) 2 dX11_highest_53 rfl (nI_1 _) (by decide) rfl ?_
            refine z_goto X (pc := 56) (tgt := 4) dX11_highest_56 (by decide) ?_
            refine z_sub (lv' := [(3, .int (nI (i + 1))), (2, .int (nI i)), (0, .ref (za E 32 0)), (1, .int but)]) [0, 1, 3, 4] rfl ?_
            refine z_eq (lv' := [(3, .int (nI (i + 1))), (2, .int ((highB g but (i + 1)).1)), (0, .ref (za E 32 0)), (1, .int but)]) (by simp [highB, c12, hp16, nI_ne_m1 (show k16 < 2 ^ 31 by omega), nI_clamp (show k16 < 2 ^ 31 by omega), c16, hq16, c33, c44]) rfl ?_
            exact ih4 () (by omega) trivial
      · exact absurd (nI_pos' (by omega)) c16

def rm_X11_sell : Room := { frames := 3, cells := 0, slots := 0, locals := 64 }
theorem kv_X11_sell : KV yX11_sell RX11 cX11_sell 6 (some .int) 1 := ⟨⟨gw_665, gw_666, gw_5, gw_667⟩, by decide +kernel⟩
set_option maxRecDepth 100000 in
set_option maxHeartbeats 4000000 in
theorem c_X11_sell (E : ZE) (M : Mem) (g : LG) (hg : gF (M 20 0) = g) (nc nm n : Nat) (hI : Inv g nc nm n) (rs : Rs) (hR : RSm M rs) (hs : List LG) (hH : HM M hs) (tx : Bool) (htx : M 32 0 11 = zb tx) (v : Int32) : Mt E yX11_sell cX11_sell 6 (some .int) rm_X11_sell [.ref (za E 32 0), .int v] M (RI (fun v0 M1 => MX M g hs tx (oSell g rs v) v0 M1)) := by
  have hnc := hI.nc; have hnm := hI.nm; have hn := hI.c10; have hn2 := hI.m10
  refine z_met (own := RX11) (lv := [(0, .ref (za E 32 0)), (1, .int v)]) (by decide) rfl (Nat.le_of_ble_eq_true rfl) rfl (fun gg X Y => ?_)
  refine z_iload_n X (pc := 0) 1 dX11_sell_0 rfl rfl ?_
  refine z_iconst X (pc := 1) (v := 1) dX11_sell_1 (by decide) ?_
  refine z_bipush X (pc := 2) (v := 9) dX11_sell_2 (by decide) ?_
  refine z_callS X (pc := 4) (rest := []) ks_X11_isBetween (c_X11_isBetween E M v 1 9) gw_240 (by decide) rfl rfl (Nat.le_of_ble_eq_true rfl) dX11_sell_4 (zk_i ?_)
  refine z_bif_ne X (pc := 7) (tgt := 14) dX11_sell_7 (by decide) (fun c7 => ?_) (fun c7 => ?_)
  · refine z_aload_n X (pc := 14) 0 dX11_sell_14 rfl rfl ?_
    refine z_iconst X (pc := 15) (v := (-1)) dX11_sell_15 (by decide) ?_
    refine z_callV X (pc := 16) (rest := []) kv_X11_highest (c_X11_highest E M g (And.left (SF.rf hg)) nc nm hnc hnm hn hn2 ((-1))) zk_32_0 (zc_32_0 E _) rfl rfl gw_668 (by decide) rfl rfl (Nat.le_of_ble_eq_true rfl) dX11_sell_16 (zk_i ?_)
    refine z_istore_n X (pc := 19) (lv1 := [(2, .int ((highB g ((-1)) nm).1)), (0, .ref (za E 32 0)), (1, .int v)]) dX11_sell_19 rfl (by decide) rfl ?_
    refine z_aload_n X (pc := 20) 1 dX11_sell_20 rfl rfl ?_
    refine z_iload_n X (pc := 21) 0 dX11_sell_21 rfl rfl ?_
    rcases (show nOr ((highB g ((-1)) nm).1) 10 from (highB_no.le (by omega))) with hp22 | ⟨k22, hk22, hp22⟩
    · refine z_top (y := ((-1))) hp22 ?_
      refine z_if_ge X (pc := 22) (tgt := 29) dX11_sell_22 (by decide) (fun c22 => ?_) (fun c22 => ?_)
      · exact absurd c22 (by decide)
      · refine z_iconst X (pc := 25) (v := 1) dX11_sell_25 (by decide) ?_
        refine z_goto X (pc := 26) (tgt := 30) dX11_sell_26 (by decide) ?_
        refine z_bipush X (pc := 30) (v := 10) dX11_sell_30 (by decide) ?_
        refine z_aload_n X (pc := 32) 1 dX11_sell_32 rfl rfl ?_
        refine z_callV X (pc := 33) (rest := [.int 10, .int 1, .ref (za E 32 0)]) kv_X11_sitting (c_X11_sitting E M g (And.left (SF.rf hg)) nm hnm (by omega) (fun m hm => (hI.nor12 hm).le (by omega))) zk_32_0 (zc_32_0 E _) rfl rfl gw_474 (by decide) rfl rfl (Nat.le_of_ble_eq_true rfl) dX11_sell_33 (zk_i ?_)
        refine z_callV X (pc := 36) (rest := []) kv_X11_refuse (c_X11_refuse E M 10 (nI (cntB (sits g) nm))) zk_32_0 (zc_32_0 E _) rfl rfl gw_243 (by decide) rfl rfl (Nat.le_of_ble_eq_true rfl) dX11_sell_36 (zk_ri (fun v_3 M_1 h_2 => ?_))
        refine z_top (y := 1) h_2.1 ?_
        refine z_if_eq X (pc := 39) (tgt := 46) dX11_sell_39 (by decide) (fun c39 => ?_) (fun c39 => ?_)
        · exact absurd c39 (by decide)
        · refine z_sipush X (pc := 42) (v := (-1014)) dX11_sell_42 (by decide) ?_
          exact z_iret X Y dX11_sell_45 ⟨_, rfl, MX.refuse (rs := [(10, (nI (cntB (sits g) nm)))]) hg hH h_2.2 (by decide) (by simp [oSell, nSit, buyer, hI.cNe, hI.mNe, gu_r, c7, hp22, c22, (i32_nle.mp c22), c39]) (Nat.le_of_ble_eq_true rfl)⟩
    · refine z_top (y := (nI k22)) hp22 ?_
      refine z_if_ge X (pc := 22) (tgt := 29) dX11_sell_22 (by decide) (fun c22 => ?_) (fun c22 => ?_)
      · refine z_iconst X (pc := 29) (v := 0) dX11_sell_29 (by decide) ?_
        refine z_bipush X (pc := 30) (v := 10) dX11_sell_30 (by decide) ?_
        refine z_aload_n X (pc := 32) 1 dX11_sell_32 rfl rfl ?_
        refine z_callV X (pc := 33) (rest := [.int 10, .int 0, .ref (za E 32 0)]) kv_X11_sitting (c_X11_sitting E M g (And.left (SF.rf hg)) nm hnm (by omega) (fun m hm => (hI.nor12 hm).le (by omega))) zk_32_0 (zc_32_0 E _) rfl rfl gw_474 (by decide) rfl rfl (Nat.le_of_ble_eq_true rfl) dX11_sell_33 (zk_i ?_)
        refine z_callV X (pc := 36) (rest := []) kv_X11_refuse (c_X11_refuse_no E M 10 (nI (cntB (sits g) nm))) zk_32_0 (zc_32_0 E _) rfl rfl gw_243 (by decide) rfl rfl (Nat.le_of_ble_eq_true rfl) dX11_sell_36 (zk_i ?_)
        refine z_if_eq X (pc := 39) (tgt := 46) dX11_sell_39 (by decide) (fun c39 => ?_) (fun c39 => ?_)
        · obtain ⟨b, hb, hpb, -, hbz, -⟩ := (highB_spec (g := g) (but := -1) (n := nm) (fun m hm => (hI.mu m hm).2.2.2.2.1)).resolve_left (fun q => nI_ne_m1 (show k22 < 2 ^ 31 by omega) (by rw [← hp22, q.1]))
          have hp1 : (highB g (-1) nm).1 = nI b := by rw [hpb]
          have hbu : buyer g = nI b := by unfold buyer; rw [hI.mNe]; exact hp1
          obtain ⟨kc, hkc, hpc⟩ : ∃ k, k < nc ∧ g 12 b = nI k := (hI.nor12 hb).resolve_left (fun q => hbz ((hI.mu b hb).2.2.2.2.2.2.1 q))
          refine z_eq (lv' := [(2, .int (nI b)), (0, .ref (za E 32 0)), (1, .int v)]) (by rw [hp1]) rfl ?_
          refine z_aload_n X (pc := 46) 1 dX11_sell_46 rfl rfl ?_
          refine z_callV X (pc := 47) (rest := []) kv_X11_change (c_X11_change E M g (And.left (SF.rf hg)) hs hH tx htx) zk_32_0 (zc_32_0 E _) rfl rfl gw_248 (by decide) rfl rfl (Nat.le_of_ble_eq_true rfl) dX11_sell_47 (zk_rv (fun M_4 hC_5 => ?_))
          refine z_aload_n X (pc := 50) 1 dX11_sell_50 rfl rfl ?_
          refine z_iload_n X (pc := 51) 0 dX11_sell_51 rfl rfl ?_
          refine z_callV X (pc := 52) (rest := []) kv_X11_highest (c_X11_highest E M_4 g (And.left (SF.rf (hC_5.2.g20 hg))) nc nm hnc hnm hn hn2 (nI b)) zk_32_0 (zc_32_0 E _) rfl rfl gw_668 (by decide) rfl rfl (Nat.le_of_ble_eq_true rfl) dX11_sell_52 (zk_i ?_)
          refine z_istore_n X (pc := 55) (lv1 := [(3, .int ((highB g (nI b) nm).1)), (2, .int (nI b)), (0, .ref (za E 32 0)), (1, .int v)]) dX11_sell_55 rfl (by decide) rfl ?_
          refine z_iload_n X (pc := 56) 0 dX11_sell_56 rfl rfl ?_
          rcases (show nOr ((highB g (nI b) nm).1) 10 from (highB_no.le (by omega))) with hp57 | ⟨k57, hk57, hp57⟩
          · refine z_top (y := ((-1))) hp57 ?_
            refine z_if_ge X (pc := 57) (tgt := 64) dX11_sell_57 (by decide) (fun c57 => ?_) (fun c57 => ?_)
            · exact absurd c57 (by decide)
            · refine z_iconst X (pc := 60) (v := 0) dX11_sell_60 (by decide) ?_
              refine z_goto X (pc := 61) (tgt := 70) dX11_sell_61 (by decide) ?_
              refine z_top (y := (price g)) (by unfold price nextB; rw [hI.mNe, hbu, if_pos hp57]) ?_
              refine z_istore X (pc := 70) (lv1 := [(4, .int (price g)), (3, .int ((highB g (nI b) nm).1)), (2, .int (nI b)), (0, .ref (za E 32 0)), (1, .int v)]) dX11_sell_70 (by decide) rfl ?_
              refine z_aload_n X (pc := 72) 3 dX11_sell_72 rfl rfl ?_
              refine z_iload_n X (pc := 73) 2 dX11_sell_73 rfl rfl ?_
              refine z_iconst X (pc := 74) (v := 3) dX11_sell_74 (by decide) ?_
              refine z_aload_n X (pc := 75) 3 dX11_sell_75 rfl rfl ?_
              refine z_iload_n X (pc := 76) 2 dX11_sell_76 rfl rfl ?_
              refine z_iconst X (pc := 77) (v := 3) dX11_sell_77 (by decide) ?_
              refine z_callV X (pc := 78) (rest := [.int 3, .int (nI b), .ref (za E 32 0)]) kv_X11_of (c_X11_of E M_4 g (And.left (SF.rf (hC_5.2.g20 hg))) b 3 (show b < 10 by omega) (by decide)) zk_32_0 (zc_32_0 E _) rfl rfl gw_354 (by decide) rfl rfl (Nat.le_of_ble_eq_true rfl) dX11_sell_78 (zk_i ?_)
              refine z_iload X (pc := 81) 0 dX11_sell_81 rfl ?_
              refine z_isub X (pc := 83) dX11_sell_83 ?_
              refine z_top (y := (g 10 b + -price g)) (Int32.sub_eq_add_neg _ _) ?_
              refine z_callV X (pc := 84) (rest := []) kv_X11_put (c_X11_put E M_4 g (And.left (SF.rf (hC_5.2.g20 hg))) b 3 (g 10 b + -price g) (show b < 10 by omega) (by decide)) zk_32_0 (zc_32_0 E _) rfl rfl gw_284 (by decide) rfl rfl (Nat.le_of_ble_eq_true rfl) dX11_sell_84 (zk_rv (fun M_6 hS_7 => ?_))
              refine z_aload_n X (pc := 87) 3 dX11_sell_87 rfl rfl ?_
              refine z_get X (pc := 88) 0 zk_32_0 (zc_32_0 E _) rfl inlX11 (by decide) gw_138 rfl rfl dX11_sell_88 ?_
              refine z_iconst X (pc := 91) (v := 0) dX11_sell_91 (by decide) ?_
              refine z_dup2 X (pc := 92) dX11_sell_92 rfl rfl ?_
              refine z_iald X (pc := 93) (by decide) (show (0 : Int32) = nI 0 from rfl) (by decide) dX11_sell_93 ?_
              refine z_top (y := ((gu g 10 b (g 10 b + -price g)) 14 0)) (SF.bk ((SF.rf (hC_5.2.g20 hg)).trans hS_7) (by decide)) ?_
              refine z_iload X (pc := 94) 0 dX11_sell_94 rfl ?_
              refine z_iadd X (pc := 96) dX11_sell_96 ?_
              refine z_iast X (pc := 97) (by decide) (show (0 : Int32) = nI 0 from rfl) (by decide) dX11_sell_97 ?_
              refine z_gen (SF.pbk ((SF.rf (hC_5.2.g20 hg)).trans hS_7) (by decide)) (fun M_8 hS_9 => ?_)
              refine z_aload_n X (pc := 98) 3 dX11_sell_98 rfl rfl ?_
              refine z_aload_n X (pc := 99) 3 dX11_sell_99 rfl rfl ?_
              refine z_iload_n X (pc := 100) 2 dX11_sell_100 rfl rfl ?_
              refine z_iconst X (pc := 101) (v := 5) dX11_sell_101 (by decide) ?_
              refine z_callV X (pc := 102) (rest := [.ref (za E 32 0)]) kv_X11_of (c_X11_of E M_8 (gu (gu g 10 b (g 10 b + -price g)) 14 0 (((gu g 10 b (g 10 b + -price g)) 14 0) + (price g))) (And.left hS_9) b 5 (show b < 10 by omega) (by decide)) zk_32_0 (zc_32_0 E _) rfl rfl gw_354 (by decide) rfl rfl (Nat.le_of_ble_eq_true rfl) dX11_sell_102 (zk_i ?_)
              refine z_top (y := (nI kc)) (by simp [gu_r, hpc]) ?_
              refine z_iconst X (pc := 105) (v := 2) dX11_sell_105 (by decide) ?_
              refine z_iload_n X (pc := 106) 4 dX11_sell_106 rfl rfl ?_
              refine z_callV X (pc := 107) (rest := []) kv_X11_putChair (c_X11_putChair E M_8 (gu (gu g 10 b (g 10 b + -price g)) 14 0 (((gu g 10 b (g 10 b + -price g)) 14 0) + (price g))) (And.left hS_9) kc 2 v (show kc < 10 by omega) (by decide)) zk_32_0 (zc_32_0 E _) rfl rfl gw_261 (by decide) rfl rfl (Nat.le_of_ble_eq_true rfl) dX11_sell_107 (zk_rv (fun M_10 hS_11 => ?_))
              refine z_iconst X (pc := 110) (v := 0) dX11_sell_110 (by decide) ?_
              refine z_istore X (pc := 111) (lv1 := [(5, .int 0), (4, .int (price g)), (3, .int ((highB g (nI b) nm).1)), (2, .int (nI b)), (0, .ref (za E 32 0)), (1, .int v)]) dX11_sell_111 (by decide) rfl ?_
              refine z_sub (lv' := [(5, .int (nI 0)), (4, .int (price g)), (0, .ref (za E 32 0))]) [0, 1, 4] rfl ?_
              refine z_loop (nm) 113 (σ := Mem) (fun i s => SF M_4 (noBids (gu (gu (gu g 10 b (g 10 b + -price g)) 14 0 (((gu g 10 b (g 10 b + -price g)) 14 0) + (price g))) 2 kc v) i) s) (fun i s => (s, [(5, .int (nI i)), (4, .int (price g)), (0, .ref (za E 32 0))])) ?_ 0 M_10 (Nat.zero_le _) (hS_9.trans hS_11)
              intro i s hi113 hJ113 ih113
              obtain ⟨M9, rfl⟩ : ∃ z, z = s := ⟨s, rfl⟩
              show Z gg E M9 [(5, .int (nI i)), (4, .int (price g)), (0, .ref (za E 32 0))] 113 []
              replace hJ113 : SF M_4 (noBids (gu (gu (gu g 10 b (g 10 b + -price g)) 14 0 (((gu g 10 b (g 10 b + -price g)) 14 0) + (price g))) 2 kc v) i) M9 := hJ113
              refine z_iload X (pc := 113) 0 dX11_sell_113 rfl ?_
              refine z_aload_n X (pc := 115) 2 dX11_sell_115 rfl rfl ?_
              refine z_get X (pc := 116) 0 zk_32_0 (zc_32_0 E _) rfl inlX11 (by decide) gw_138 rfl rfl dX11_sell_116 ?_
              refine z_bipush X (pc := 119) (v := 8) dX11_sell_119 (by decide) ?_
              refine z_iald X (pc := 121) (by decide) (show (8 : Int32) = nI 8 from rfl) (by decide) dX11_sell_121 ?_
              refine z_top (y := (nI nm)) ((SF.bk hJ113 (by decide)).trans (by rw [noBids_off (by decide)]; simp [gu_r, hnm])) ?_
              refine z_nicmp_ge X (pc := 122) (a := i) (b := nm) (tgt := 139) dX11_sell_122 (by decide) (by omega) (by omega) (fun c122 => ?_) (fun c122 => ?_)
              · obtain rfl : nm = i := by omega
                refine z_aload_n X (pc := 139) 2 dX11_sell_139 rfl rfl ?_
                refine z_get X (pc := 140) 0 zk_32_0 (zc_32_0 E _) rfl inlX11 (by decide) gw_138 rfl rfl dX11_sell_140 ?_
                refine z_bipush X (pc := 143) (v := 6) dX11_sell_143 (by decide) ?_
                refine z_dup2 X (pc := 145) dX11_sell_145 rfl rfl ?_
                refine z_iald X (pc := 146) (by decide) (show (6 : Int32) = nI 6 from rfl) (by decide) dX11_sell_146 ?_
                refine z_top (y := ((noBids (gu (gu (gu g 10 b (g 10 b + -price g)) 14 0 (((gu g 10 b (g 10 b + -price g)) 14 0) + (price g))) 2 kc v) nm) 14 6)) (SF.bk hJ113 (by decide)) ?_
                refine z_iconst X (pc := 147) (v := 1) dX11_sell_147 (by decide) ?_
                refine z_iadd X (pc := 148) dX11_sell_148 ?_
                refine z_iast X (pc := 149) (by decide) (show (6 : Int32) = nI 6 from rfl) (by decide) dX11_sell_149 ?_
                refine z_gen (SF.pbk hJ113 (by decide)) (fun M_12 hS_13 => ?_)
                refine z_iload X (pc := 150) 1 dX11_sell_150 rfl ?_
                exact z_iret X Y dX11_sell_152 ⟨_, rfl, MX.done hR hC_5 (And.left hS_13) (SF.fq hS_13) ((price_rng hI hb hbu).1.1.lt (by decide)) (by simp [oSell, nSit, noBids_off, sellG_eq hI hbu (show b < 2 ^ 31 by omega) hpc (show kc < 2 ^ 31 by omega), hbu, nI_ne_m1 (show b < 2 ^ 31 by omega), hI.cNe, hI.mNe, gu_r, c7, hp22, nI_ne_m1 (show k22 < 2 ^ 31 by omega), nI_clamp (show k22 < 2 ^ 31 by omega), c22, c39, hp57, c57, (i32_nle.mp c57), c122, (Nat.not_lt.mpr c122)])⟩
              · refine z_aload_n X (pc := 125) 2 dX11_sell_125 rfl rfl ?_
                refine z_iload X (pc := 126) 0 dX11_sell_126 rfl ?_
                refine z_iconst X (pc := 128) (v := 4) dX11_sell_128 (by decide) ?_
                refine z_iconst X (pc := 129) (v := 0) dX11_sell_129 (by decide) ?_
                refine z_callV X (pc := 130) (rest := []) kv_X11_put (c_X11_put E M9 (noBids (gu (gu (gu g 10 b (g 10 b + -price g)) 14 0 (((gu g 10 b (g 10 b + -price g)) 14 0) + (price g))) 2 kc v) i) (And.left hJ113) i 4 0 (show i < 10 by omega) (by decide)) zk_32_0 (zc_32_0 E _) rfl rfl gw_284 (by decide) rfl rfl (Nat.le_of_ble_eq_true rfl) dX11_sell_130 (zk_rv (fun M_14 hS_15 => ?_))
                refine z_iinc X (pc := 133) (v := (nI (i + 1))) (lv1 := [(5, .int (nI (i + 1))), (4, .int (price g)), (0, .ref (za E 32 0))]) 0 dX11_sell_133 rfl (nI_1 _) (by decide) rfl ?_
                refine z_goto X (pc := 136) (tgt := 113) dX11_sell_136 (by decide) ?_
                refine z_sub (lv' := [(5, .int (nI (i + 1))), (4, .int (price g)), (0, .ref (za E 32 0))]) [0, 1, 2] rfl ?_
                exact ih113 M_14 (by omega) (hJ113.trans hS_15)
          · refine z_top (y := (nI k57)) hp57 ?_
            refine z_if_ge X (pc := 57) (tgt := 64) dX11_sell_57 (by decide) (fun c57 => ?_) (fun c57 => ?_)
            · refine z_aload_n X (pc := 64) 2 dX11_sell_64 rfl rfl ?_
              refine z_iload_n X (pc := 65) 0 dX11_sell_65 rfl rfl ?_
              refine z_top (y := (nI k57)) hp57 ?_
              refine z_iconst X (pc := 66) (v := 4) dX11_sell_66 (by decide) ?_
              refine z_callV X (pc := 67) (rest := []) kv_X11_of (c_X11_of E M_4 g (And.left (SF.rf (hC_5.2.g20 hg))) k57 4 (show k57 < 10 by omega) (by decide)) zk_32_0 (zc_32_0 E _) rfl rfl gw_354 (by decide) rfl rfl (Nat.le_of_ble_eq_true rfl) dX11_sell_67 (zk_i ?_)
              refine z_top (y := (price g)) (by unfold price nextB; rw [hI.mNe, hbu, if_neg (by rw [hp57]; exact nI_ne_m1 (by omega)), hp57, nI_clamp (by omega)]) ?_
              refine z_istore X (pc := 70) (lv1 := [(4, .int (price g)), (3, .int ((highB g (nI b) nm).1)), (2, .int (nI b)), (0, .ref (za E 32 0)), (1, .int v)]) dX11_sell_70 (by decide) rfl ?_
              refine z_aload_n X (pc := 72) 3 dX11_sell_72 rfl rfl ?_
              refine z_iload_n X (pc := 73) 2 dX11_sell_73 rfl rfl ?_
              refine z_iconst X (pc := 74) (v := 3) dX11_sell_74 (by decide) ?_
              refine z_aload_n X (pc := 75) 3 dX11_sell_75 rfl rfl ?_
              refine z_iload_n X (pc := 76) 2 dX11_sell_76 rfl rfl ?_
              refine z_iconst X (pc := 77) (v := 3) dX11_sell_77 (by decide) ?_
              refine z_callV X (pc := 78) (rest := [.int 3, .int (nI b), .ref (za E 32 0)]) kv_X11_of (c_X11_of E M_4 g (And.left (SF.rf (hC_5.2.g20 hg))) b 3 (show b < 10 by omega) (by decide)) zk_32_0 (zc_32_0 E _) rfl rfl gw_354 (by decide) rfl rfl (Nat.le_of_ble_eq_true rfl) dX11_sell_78 (zk_i ?_)
              refine z_iload X (pc := 81) 0 dX11_sell_81 rfl ?_
              refine z_isub X (pc := 83) dX11_sell_83 ?_
              refine z_top (y := (g 10 b + -price g)) (Int32.sub_eq_add_neg _ _) ?_
              refine z_callV X (pc := 84) (rest := []) kv_X11_put (c_X11_put E M_4 g (And.left (SF.rf (hC_5.2.g20 hg))) b 3 (g 10 b + -price g) (show b < 10 by omega) (by decide)) zk_32_0 (zc_32_0 E _) rfl rfl gw_284 (by decide) rfl rfl (Nat.le_of_ble_eq_true rfl) dX11_sell_84 (zk_rv (fun M_16 hS_17 => ?_))
              refine z_aload_n X (pc := 87) 3 dX11_sell_87 rfl rfl ?_
              refine z_get X (pc := 88) 0 zk_32_0 (zc_32_0 E _) rfl inlX11 (by decide) gw_138 rfl rfl dX11_sell_88 ?_
              refine z_iconst X (pc := 91) (v := 0) dX11_sell_91 (by decide) ?_
              refine z_dup2 X (pc := 92) dX11_sell_92 rfl rfl ?_
              refine z_iald X (pc := 93) (by decide) (show (0 : Int32) = nI 0 from rfl) (by decide) dX11_sell_93 ?_
              refine z_top (y := ((gu g 10 b (g 10 b + -price g)) 14 0)) (SF.bk ((SF.rf (hC_5.2.g20 hg)).trans hS_17) (by decide)) ?_
              refine z_iload X (pc := 94) 0 dX11_sell_94 rfl ?_
              refine z_iadd X (pc := 96) dX11_sell_96 ?_
              refine z_iast X (pc := 97) (by decide) (show (0 : Int32) = nI 0 from rfl) (by decide) dX11_sell_97 ?_
              refine z_gen (SF.pbk ((SF.rf (hC_5.2.g20 hg)).trans hS_17) (by decide)) (fun M_18 hS_19 => ?_)
              refine z_aload_n X (pc := 98) 3 dX11_sell_98 rfl rfl ?_
              refine z_aload_n X (pc := 99) 3 dX11_sell_99 rfl rfl ?_
              refine z_iload_n X (pc := 100) 2 dX11_sell_100 rfl rfl ?_
              refine z_iconst X (pc := 101) (v := 5) dX11_sell_101 (by decide) ?_
              refine z_callV X (pc := 102) (rest := [.ref (za E 32 0)]) kv_X11_of (c_X11_of E M_18 (gu (gu g 10 b (g 10 b + -price g)) 14 0 (((gu g 10 b (g 10 b + -price g)) 14 0) + (price g))) (And.left hS_19) b 5 (show b < 10 by omega) (by decide)) zk_32_0 (zc_32_0 E _) rfl rfl gw_354 (by decide) rfl rfl (Nat.le_of_ble_eq_true rfl) dX11_sell_102 (zk_i ?_)
              refine z_top (y := (nI kc)) (by simp [gu_r, hpc]) ?_
              refine z_iconst X (pc := 105) (v := 2) dX11_sell_105 (by decide) ?_
              refine z_iload_n X (pc := 106) 4 dX11_sell_106 rfl rfl ?_
              refine z_callV X (pc := 107) (rest := []) kv_X11_putChair (c_X11_putChair E M_18 (gu (gu g 10 b (g 10 b + -price g)) 14 0 (((gu g 10 b (g 10 b + -price g)) 14 0) + (price g))) (And.left hS_19) kc 2 v (show kc < 10 by omega) (by decide)) zk_32_0 (zc_32_0 E _) rfl rfl gw_261 (by decide) rfl rfl (Nat.le_of_ble_eq_true rfl) dX11_sell_107 (zk_rv (fun M_20 hS_21 => ?_))
              refine z_iconst X (pc := 110) (v := 0) dX11_sell_110 (by decide) ?_
              refine z_istore X (pc := 111) (lv1 := [(5, .int 0), (4, .int (price g)), (3, .int ((highB g (nI b) nm).1)), (2, .int (nI b)), (0, .ref (za E 32 0)), (1, .int v)]) dX11_sell_111 (by decide) rfl ?_
              refine z_sub (lv' := [(5, .int (nI 0)), (4, .int (price g)), (0, .ref (za E 32 0))]) [0, 1, 4] rfl ?_
              refine z_loop (nm) 113 (σ := Mem) (fun i s => SF M_4 (noBids (gu (gu (gu g 10 b (g 10 b + -price g)) 14 0 (((gu g 10 b (g 10 b + -price g)) 14 0) + (price g))) 2 kc v) i) s) (fun i s => (s, [(5, .int (nI i)), (4, .int (price g)), (0, .ref (za E 32 0))])) ?_ 0 M_20 (Nat.zero_le _) (hS_19.trans hS_21)
              intro i s hi113 hJ113 ih113
              obtain ⟨M9, rfl⟩ : ∃ z, z = s := ⟨s, rfl⟩
              show Z gg E M9 [(5, .int (nI i)), (4, .int (price g)), (0, .ref (za E 32 0))] 113 []
              replace hJ113 : SF M_4 (noBids (gu (gu (gu g 10 b (g 10 b + -price g)) 14 0 (((gu g 10 b (g 10 b + -price g)) 14 0) + (price g))) 2 kc v) i) M9 := hJ113
              refine z_iload X (pc := 113) 0 dX11_sell_113 rfl ?_
              refine z_aload_n X (pc := 115) 2 dX11_sell_115 rfl rfl ?_
              refine z_get X (pc := 116) 0 zk_32_0 (zc_32_0 E _) rfl inlX11 (by decide) gw_138 rfl rfl dX11_sell_116 ?_
              refine z_bipush X (pc := 119) (v := 8) dX11_sell_119 (by decide) ?_
              refine z_iald X (pc := 121) (by decide) (show (8 : Int32) = nI 8 from rfl) (by decide) dX11_sell_121 ?_
              refine z_top (y := (nI nm)) ((SF.bk hJ113 (by decide)).trans (by rw [noBids_off (by decide)]; simp [gu_r, hnm])) ?_
              refine z_nicmp_ge X (pc := 122) (a := i) (b := nm) (tgt := 139) dX11_sell_122 (by decide) (by omega) (by omega) (fun c122 => ?_) (fun c122 => ?_)
              · obtain rfl : nm = i := by omega
                refine z_aload_n X (pc := 139) 2 dX11_sell_139 rfl rfl ?_
                refine z_get X (pc := 140) 0 zk_32_0 (zc_32_0 E _) rfl inlX11 (by decide) gw_138 rfl rfl dX11_sell_140 ?_
                refine z_bipush X (pc := 143) (v := 6) dX11_sell_143 (by decide) ?_
                refine z_dup2 X (pc := 145) dX11_sell_145 rfl rfl ?_
                refine z_iald X (pc := 146) (by decide) (show (6 : Int32) = nI 6 from rfl) (by decide) dX11_sell_146 ?_
                refine z_top (y := ((noBids (gu (gu (gu g 10 b (g 10 b + -price g)) 14 0 (((gu g 10 b (g 10 b + -price g)) 14 0) + (price g))) 2 kc v) nm) 14 6)) (SF.bk hJ113 (by decide)) ?_
                refine z_iconst X (pc := 147) (v := 1) dX11_sell_147 (by decide) ?_
                refine z_iadd X (pc := 148) dX11_sell_148 ?_
                refine z_iast X (pc := 149) (by decide) (show (6 : Int32) = nI 6 from rfl) (by decide) dX11_sell_149 ?_
                refine z_gen (SF.pbk hJ113 (by decide)) (fun M_22 hS_23 => ?_)
                refine z_iload X (pc := 150) 1 dX11_sell_150 rfl ?_
                exact z_iret X Y dX11_sell_152 ⟨_, rfl, MX.done hR hC_5 (And.left hS_23) (SF.fq hS_23) ((price_rng hI hb hbu).1.1.lt (by decide)) (by simp [oSell, nSit, noBids_off, sellG_eq hI hbu (show b < 2 ^ 31 by omega) hpc (show kc < 2 ^ 31 by omega), hbu, nI_ne_m1 (show b < 2 ^ 31 by omega), hI.cNe, hI.mNe, gu_r, c7, hp22, nI_ne_m1 (show k22 < 2 ^ 31 by omega), nI_clamp (show k22 < 2 ^ 31 by omega), c22, c39, hp57, nI_ne_m1 (show k57 < 2 ^ 31 by omega), nI_clamp (show k57 < 2 ^ 31 by omega), c57, c122, (Nat.not_lt.mpr c122)])⟩
              · refine z_aload_n X (pc := 125) 2 dX11_sell_125 rfl rfl ?_
                refine z_iload X (pc := 126) 0 dX11_sell_126 rfl ?_
                refine z_iconst X (pc := 128) (v := 4) dX11_sell_128 (by decide) ?_
                refine z_iconst X (pc := 129) (v := 0) dX11_sell_129 (by decide) ?_
                refine z_callV X (pc := 130) (rest := []) kv_X11_put (c_X11_put E M9 (noBids (gu (gu (gu g 10 b (g 10 b + -price g)) 14 0 (((gu g 10 b (g 10 b + -price g)) 14 0) + (price g))) 2 kc v) i) (And.left hJ113) i 4 0 (show i < 10 by omega) (by decide)) zk_32_0 (zc_32_0 E _) rfl rfl gw_284 (by decide) rfl rfl (Nat.le_of_ble_eq_true rfl) dX11_sell_130 (zk_rv (fun M_24 hS_25 => ?_))
                refine z_iinc X (pc := 133) (v := (nI (i + 1))) (lv1 := [(5, .int (nI (i + 1))), (4, .int (price g)), (0, .ref (za E 32 0))]) 0 dX11_sell_133 rfl (nI_1 _) (by decide) rfl ?_
                refine z_goto X (pc := 136) (tgt := 113) dX11_sell_136 (by decide) ?_
                refine z_sub (lv' := [(5, .int (nI (i + 1))), (4, .int (price g)), (0, .ref (za E 32 0))]) [0, 1, 2] rfl ?_
                exact ih113 M_24 (by omega) (hJ113.trans hS_25)
            · exact absurd (nI_pos' (by omega)) c57
        · exact absurd (by decide) c39
      · exact absurd (nI_pos' (by omega)) c22
  · refine z_sipush X (pc := 10) (v := (-1012)) dX11_sell_10 (by decide) ?_
    exact z_iret X Y dX11_sell_13 ⟨_, rfl, MX.same hg hH hR (by decide) (by simp [oSell, nSit, buyer, hI.cNe, hI.mNe, gu_r, c7])⟩

def rm_X11_pay : Room := { frames := 1, cells := 0, slots := 0, locals := 23 }
theorem kv_X11_pay : KV yX11_pay RX11 cX11_pay 5 none 2 := ⟨⟨gw_709, gw_710, gw_5, gw_711⟩, by decide +kernel⟩
set_option maxRecDepth 100000 in
set_option maxHeartbeats 4000000 in
theorem c_X11_pay (E : ZE) (M : Mem) (g : LG) (hg : gF (M 20 0) = g) (m : Nat) (hm : m < 10) (p : Int32) : Mt E yX11_pay cX11_pay 5 none rm_X11_pay [.ref (za E 32 0), .int (nI m), .int p] M (RV (SF M (payG g m p))) := by
  refine z_met (own := RX11) (lv := [(0, .ref (za E 32 0)), (1, .int (nI m)), (2, .int p)]) (by decide) rfl (Nat.le_of_ble_eq_true rfl) rfl (fun gg X Y => ?_)
  refine z_aload_n X (pc := 0) 0 dX11_pay_0 rfl rfl ?_
  refine z_iload_n X (pc := 1) 1 dX11_pay_1 rfl rfl ?_
  refine z_iconst X (pc := 2) (v := 3) dX11_pay_2 (by decide) ?_
  refine z_callV X (pc := 3) (rest := []) kv_X11_of (c_X11_of E M g (And.left (SF.rf hg)) m 3 (show m < 10 by omega) (by decide)) zk_32_0 (zc_32_0 E _) rfl rfl gw_354 (by decide) rfl rfl (Nat.le_of_ble_eq_true rfl) dX11_pay_3 (zk_i ?_)
  refine z_iload_n X (pc := 6) 2 dX11_pay_6 rfl rfl ?_
  refine z_iadd X (pc := 7) dX11_pay_7 ?_
  refine z_istore_n X (pc := 8) (lv1 := [(3, .int ((g 10 m) + p)), (0, .ref (za E 32 0)), (1, .int (nI m)), (2, .int p)]) dX11_pay_8 rfl (by decide) rfl ?_
  refine z_iload_n X (pc := 9) 0 dX11_pay_9 rfl rfl ?_
  refine z_bipush X (pc := 10) (v := 99) dX11_pay_10 (by decide) ?_
  refine z_icmp_le X (pc := 12) (tgt := 22) dX11_pay_12 (by decide) (fun c12 => ?_) (fun c12 => ?_)
  · refine z_iconst X (pc := 22) (v := 0) dX11_pay_22 (by decide) ?_
    refine z_istore X (pc := 23) (lv1 := [(4, .int 0), (3, .int ((g 10 m) + p)), (0, .ref (za E 32 0)), (1, .int (nI m)), (2, .int p)]) dX11_pay_23 (by decide) rfl ?_
    refine z_aload_n X (pc := 25) 2 dX11_pay_25 rfl rfl ?_
    refine z_iload_n X (pc := 26) 3 dX11_pay_26 rfl rfl ?_
    refine z_iconst X (pc := 27) (v := 3) dX11_pay_27 (by decide) ?_
    refine z_iload_n X (pc := 28) 1 dX11_pay_28 rfl rfl ?_
    refine z_iload X (pc := 29) 0 dX11_pay_29 rfl ?_
    refine z_isub X (pc := 31) dX11_pay_31 ?_
    refine z_callV X (pc := 32) (rest := []) kv_X11_put (c_X11_put E M g (And.left (SF.rf hg)) m 3 (((g 10 m) + p) - 0) (show m < 10 by omega) (by decide)) zk_32_0 (zc_32_0 E _) rfl rfl gw_284 (by decide) rfl rfl (Nat.le_of_ble_eq_true rfl) dX11_pay_32 (zk_rv (fun M_1 hS_2 => ?_))
    refine z_aload_n X (pc := 35) 2 dX11_pay_35 rfl rfl ?_
    refine z_get X (pc := 36) 0 zk_32_0 (zc_32_0 E _) rfl inlX11 (by decide) gw_138 rfl rfl dX11_pay_36 ?_
    refine z_iconst X (pc := 39) (v := 1) dX11_pay_39 (by decide) ?_
    refine z_dup2 X (pc := 40) dX11_pay_40 rfl rfl ?_
    refine z_iald X (pc := 41) (by decide) (show (1 : Int32) = nI 1 from rfl) (by decide) dX11_pay_41 ?_
    refine z_top (y := ((gu g 10 m (((g 10 m) + p) - 0)) 14 1)) (SF.bk ((SF.rf hg).trans hS_2) (by decide)) ?_
    refine z_iload_n X (pc := 42) 4 dX11_pay_42 rfl rfl ?_
    refine z_iadd X (pc := 43) dX11_pay_43 ?_
    refine z_iast X (pc := 44) (by decide) (show (1 : Int32) = nI 1 from rfl) (by decide) dX11_pay_44 ?_
    refine z_gen (SF.pbk ((SF.rf hg).trans hS_2) (by decide)) (fun M_3 hS_4 => ?_)
    refine z_aload_n X (pc := 45) 2 dX11_pay_45 rfl rfl ?_
    refine z_get X (pc := 46) 0 zk_32_0 (zc_32_0 E _) rfl inlX11 (by decide) gw_138 rfl rfl dX11_pay_46 ?_
    refine z_iconst X (pc := 49) (v := 3) dX11_pay_49 (by decide) ?_
    refine z_dup2 X (pc := 50) dX11_pay_50 rfl rfl ?_
    refine z_iald X (pc := 51) (by decide) (show (3 : Int32) = nI 3 from rfl) (by decide) dX11_pay_51 ?_
    refine z_top (y := ((gu (gu g 10 m (((g 10 m) + p) - 0)) 14 1 (((gu g 10 m (((g 10 m) + p) - 0)) 14 1) + p)) 14 3)) (SF.bk hS_4 (by decide)) ?_
    refine z_iload X (pc := 52) 0 dX11_pay_52 rfl ?_
    refine z_iadd X (pc := 54) dX11_pay_54 ?_
    refine z_iast X (pc := 55) (by decide) (show (3 : Int32) = nI 3 from rfl) (by decide) dX11_pay_55 ?_
    refine z_gen (SF.pbk hS_4 (by decide)) (fun M_5 hS_6 => ?_)
    exact z_vret X Y dX11_pay_56 ⟨rfl, by have h := hS_6; simpa [payG, gu_r, c12, (i32_nlt.mpr c12)] using h⟩
  · refine z_iload_n X (pc := 15) 0 dX11_pay_15 rfl rfl ?_
    refine z_bipush X (pc := 16) (v := 99) dX11_pay_16 (by decide) ?_
    refine z_isub X (pc := 18) dX11_pay_18 ?_
    refine z_goto X (pc := 19) (tgt := 23) dX11_pay_19 (by decide) ?_
    refine z_istore X (pc := 23) (lv1 := [(4, .int (((g 10 m) + p) - 99)), (3, .int ((g 10 m) + p)), (0, .ref (za E 32 0)), (1, .int (nI m)), (2, .int p)]) dX11_pay_23 (by decide) rfl ?_
    refine z_aload_n X (pc := 25) 2 dX11_pay_25 rfl rfl ?_
    refine z_iload_n X (pc := 26) 3 dX11_pay_26 rfl rfl ?_
    refine z_iconst X (pc := 27) (v := 3) dX11_pay_27 (by decide) ?_
    refine z_iload_n X (pc := 28) 1 dX11_pay_28 rfl rfl ?_
    refine z_iload X (pc := 29) 0 dX11_pay_29 rfl ?_
    refine z_isub X (pc := 31) dX11_pay_31 ?_
    refine z_callV X (pc := 32) (rest := []) kv_X11_put (c_X11_put E M g (And.left (SF.rf hg)) m 3 (((g 10 m) + p) - (((g 10 m) + p) - 99)) (show m < 10 by omega) (by decide)) zk_32_0 (zc_32_0 E _) rfl rfl gw_284 (by decide) rfl rfl (Nat.le_of_ble_eq_true rfl) dX11_pay_32 (zk_rv (fun M_7 hS_8 => ?_))
    refine z_aload_n X (pc := 35) 2 dX11_pay_35 rfl rfl ?_
    refine z_get X (pc := 36) 0 zk_32_0 (zc_32_0 E _) rfl inlX11 (by decide) gw_138 rfl rfl dX11_pay_36 ?_
    refine z_iconst X (pc := 39) (v := 1) dX11_pay_39 (by decide) ?_
    refine z_dup2 X (pc := 40) dX11_pay_40 rfl rfl ?_
    refine z_iald X (pc := 41) (by decide) (show (1 : Int32) = nI 1 from rfl) (by decide) dX11_pay_41 ?_
    refine z_top (y := ((gu g 10 m (((g 10 m) + p) - (((g 10 m) + p) - 99))) 14 1)) (SF.bk ((SF.rf hg).trans hS_8) (by decide)) ?_
    refine z_iload_n X (pc := 42) 4 dX11_pay_42 rfl rfl ?_
    refine z_iadd X (pc := 43) dX11_pay_43 ?_
    refine z_iast X (pc := 44) (by decide) (show (1 : Int32) = nI 1 from rfl) (by decide) dX11_pay_44 ?_
    refine z_gen (SF.pbk ((SF.rf hg).trans hS_8) (by decide)) (fun M_9 hS_10 => ?_)
    refine z_aload_n X (pc := 45) 2 dX11_pay_45 rfl rfl ?_
    refine z_get X (pc := 46) 0 zk_32_0 (zc_32_0 E _) rfl inlX11 (by decide) gw_138 rfl rfl dX11_pay_46 ?_
    refine z_iconst X (pc := 49) (v := 3) dX11_pay_49 (by decide) ?_
    refine z_dup2 X (pc := 50) dX11_pay_50 rfl rfl ?_
    refine z_iald X (pc := 51) (by decide) (show (3 : Int32) = nI 3 from rfl) (by decide) dX11_pay_51 ?_
    refine z_top (y := ((gu (gu g 10 m (((g 10 m) + p) - (((g 10 m) + p) - 99))) 14 1 (((gu g 10 m (((g 10 m) + p) - (((g 10 m) + p) - 99))) 14 1) + p)) 14 3)) (SF.bk hS_10 (by decide)) ?_
    refine z_iload X (pc := 52) 0 dX11_pay_52 rfl ?_
    refine z_iadd X (pc := 54) dX11_pay_54 ?_
    refine z_iast X (pc := 55) (by decide) (show (3 : Int32) = nI 3 from rfl) (by decide) dX11_pay_55 ?_
    refine z_gen (SF.pbk hS_10 (by decide)) (fun M_11 hS_12 => ?_)
    exact z_vret X Y dX11_pay_56 ⟨rfl, by have h := hS_12; simpa [payG, gu_r, c12, (i32_nle.mp c12)] using h⟩

def rm_X11_wear : Room := { frames := 1, cells := 0, slots := 0, locals := 22 }
theorem kv_X11_wear : KV yX11_wear RX11 cX11_wear 4 (some .int) 2 := ⟨⟨gw_717, gw_718, gw_5, gw_719⟩, by decide +kernel⟩
set_option maxRecDepth 100000 in
set_option maxHeartbeats 4000000 in
theorem c_X11_wear (E : ZE) (M : Mem) (g : LG) (hg : gF (M 20 0) = g) (c : Nat) (hc : c < 10) (w : Int32) (h6 : nOr (g 6 c) 10) : Mt E yX11_wear cX11_wear 4 (some .int) rm_X11_wear [.ref (za E 32 0), .int (nI c), .int w] M (PI (wearOf g c w) M) := by
  refine z_met (own := RX11) (lv := [(0, .ref (za E 32 0)), (1, .int (nI c)), (2, .int w)]) (by decide) rfl (Nat.le_of_ble_eq_true rfl) rfl (fun gg X Y => ?_)
  refine z_aload_n X (pc := 0) 0 dX11_wear_0 rfl rfl ?_
  refine z_iload_n X (pc := 1) 1 dX11_wear_1 rfl rfl ?_
  refine z_bipush X (pc := 2) (v := 6) dX11_wear_2 (by decide) ?_
  refine z_callV X (pc := 4) (rest := []) kv_X11_ofChair (c_X11_ofChair E M g (And.left (SF.rf hg)) c 6 (show c < 10 by omega) (by decide)) zk_32_0 (zc_32_0 E _) rfl rfl gw_323 (by decide) rfl rfl (Nat.le_of_ble_eq_true rfl) dX11_wear_4 (zk_i ?_)
  rcases (show nOr (g 6 c) 10 from h6) with hp7 | ⟨k7, hk7, hp7⟩
  · refine z_top (y := ((-1))) hp7 ?_
    refine z_istore_n X (pc := 7) (lv1 := [(3, .int ((-1))), (0, .ref (za E 32 0)), (1, .int (nI c)), (2, .int w)]) dX11_wear_7 rfl (by decide) rfl ?_
    refine z_iload_n X (pc := 8) 0 dX11_wear_8 rfl rfl ?_
    refine z_if_ge X (pc := 9) (tgt := 16) dX11_wear_9 (by decide) (fun c9 => ?_) (fun c9 => ?_)
    · exact absurd c9 (by decide)
    · refine z_iconst X (pc := 12) (v := 0) dX11_wear_12 (by decide) ?_
      refine z_goto X (pc := 13) (tgt := 45) dX11_wear_13 (by decide) ?_
      exact z_pret X Y dX11_wear_45 (by simp [wearOf, taken, who, hp7, c9, (i32_nle.mp c9)]) rfl
  · refine z_top (y := (nI k7)) hp7 ?_
    refine z_istore_n X (pc := 7) (lv1 := [(3, .int (nI k7)), (0, .ref (za E 32 0)), (1, .int (nI c)), (2, .int w)]) dX11_wear_7 rfl (by decide) rfl ?_
    refine z_iload_n X (pc := 8) 0 dX11_wear_8 rfl rfl ?_
    refine z_if_ge X (pc := 9) (tgt := 16) dX11_wear_9 (by decide) (fun c9 => ?_) (fun c9 => ?_)
    · refine z_aload_n X (pc := 16) 1 dX11_wear_16 rfl rfl ?_
      refine z_iload_n X (pc := 17) 0 dX11_wear_17 rfl rfl ?_
      refine z_iconst X (pc := 18) (v := 1) dX11_wear_18 (by decide) ?_
      refine z_callV X (pc := 19) (rest := []) kv_X11_of (c_X11_of E M g (And.left (SF.rf hg)) k7 1 (show k7 < 10 by omega) (by decide)) zk_32_0 (zc_32_0 E _) rfl rfl gw_354 (by decide) rfl rfl (Nat.le_of_ble_eq_true rfl) dX11_wear_19 (zk_i ?_)
      refine z_aload_n X (pc := 22) 1 dX11_wear_22 rfl rfl ?_
      refine z_iload_n X (pc := 23) 2 dX11_wear_23 rfl rfl ?_
      refine z_iconst X (pc := 24) (v := 1) dX11_wear_24 (by decide) ?_
      refine z_callV X (pc := 25) (rest := [.int (g 8 k7)]) kv_X11_ofChair (c_X11_ofChair E M g (And.left (SF.rf hg)) c 1 (show c < 10 by omega) (by decide)) zk_32_0 (zc_32_0 E _) rfl rfl gw_323 (by decide) rfl rfl (Nat.le_of_ble_eq_true rfl) dX11_wear_25 (zk_i ?_)
      refine z_icmp_ge X (pc := 28) (tgt := 35) dX11_wear_28 (by decide) (fun c28 => ?_) (fun c28 => ?_)
      · refine z_iload_n X (pc := 35) 3 dX11_wear_35 rfl rfl ?_
        refine z_iconst X (pc := 36) (v := 4) dX11_wear_36 (by decide) ?_
        refine z_icmp_ne X (pc := 37) (tgt := 44) dX11_wear_37 (by decide) (fun c37 => ?_) (fun c37 => ?_)
        · refine z_iconst X (pc := 44) (v := 0) dX11_wear_44 (by decide) ?_
          exact z_pret X Y dX11_wear_45 (by simp [wearOf, taken, who, hp7, nI_ne_m1 (show k7 < 2 ^ 31 by omega), nI_clamp (show k7 < 2 ^ 31 by omega), c9, c28, (i32_nlt.mpr c28), c37]) rfl
        · refine z_iconst X (pc := 40) (v := 1) dX11_wear_40 (by decide) ?_
          refine z_goto X (pc := 41) (tgt := 45) dX11_wear_41 (by decide) ?_
          exact z_pret X Y dX11_wear_45 (by simp [wearOf, taken, who, hp7, nI_ne_m1 (show k7 < 2 ^ 31 by omega), nI_clamp (show k7 < 2 ^ 31 by omega), c9, c28, (i32_nlt.mpr c28), c37]) rfl
      · refine z_iload_n X (pc := 31) 3 dX11_wear_31 rfl rfl ?_
        refine z_goto X (pc := 32) (tgt := 45) dX11_wear_32 (by decide) ?_
        exact z_pret X Y dX11_wear_45 (by simp [wearOf, taken, who, hp7, nI_ne_m1 (show k7 < 2 ^ 31 by omega), nI_clamp (show k7 < 2 ^ 31 by omega), c9, c28, (i32_nle.mp c28)]) rfl
    · exact absurd (nI_pos' (by omega)) c9

def rm_X11_wearDown : Room := { frames := 2, cells := 0, slots := 0, locals := 45 }
theorem kv_X11_wearDown : KV yX11_wearDown RX11 cX11_wearDown 6 none 2 := ⟨⟨gw_713, gw_714, gw_5, gw_715⟩, by decide +kernel⟩
set_option maxRecDepth 100000 in
set_option maxHeartbeats 4000000 in
theorem c_X11_wearDown (E : ZE) (M : Mem) (g : LG) (hg : gF (M 20 0) = g) (c : Nat) (hc : c < 10) (w : Int32) (h3 : rng (g 3 c) 0 3) (hw : rng w 1 4) (hq : WHyp g c) : Mt E yX11_wearDown cX11_wearDown 6 none rm_X11_wearDown [.ref (za E 32 0), .int (nI c), .int w] M (RV (SF M (wearD g c w))) := by
  have hwr := wearOf_rng (g := g) (c := c) hw
  refine z_met (own := RX11) (lv := [(0, .ref (za E 32 0)), (1, .int (nI c)), (2, .int w)]) (by decide) rfl (Nat.le_of_ble_eq_true rfl) rfl (fun gg X Y => ?_)
  refine z_aload_n X (pc := 0) 0 dX11_wearDown_0 rfl rfl ?_
  refine z_iload_n X (pc := 1) 1 dX11_wearDown_1 rfl rfl ?_
  refine z_iload_n X (pc := 2) 2 dX11_wearDown_2 rfl rfl ?_
  refine z_callV X (pc := 3) (rest := []) kv_X11_wear (c_X11_wear E M g (And.left (SF.rf hg)) c (by omega) w hq.nor) zk_32_0 (zc_32_0 E _) rfl rfl gw_716 (by decide) rfl rfl (Nat.le_of_ble_eq_true rfl) dX11_wearDown_3 (zk_i ?_)
  refine z_istore_n X (pc := 6) (lv1 := [(3, .int (wearOf g c w)), (0, .ref (za E 32 0)), (1, .int (nI c)), (2, .int w)]) dX11_wearDown_6 rfl (by decide) rfl ?_
  refine z_aload_n X (pc := 7) 1 dX11_wearDown_7 rfl rfl ?_
  refine z_iload_n X (pc := 8) 2 dX11_wearDown_8 rfl rfl ?_
  refine z_iconst X (pc := 9) (v := 3) dX11_wearDown_9 (by decide) ?_
  refine z_callV X (pc := 10) (rest := []) kv_X11_ofChair (c_X11_ofChair E M g (And.left (SF.rf hg)) c 3 (show c < 10 by omega) (by decide)) zk_32_0 (zc_32_0 E _) rfl rfl gw_323 (by decide) rfl rfl (Nat.le_of_ble_eq_true rfl) dX11_wearDown_10 (zk_i ?_)
  refine z_istore X (pc := 13) (lv1 := [(4, .int (g 3 c)), (3, .int (wearOf g c w)), (0, .ref (za E 32 0)), (1, .int (nI c)), (2, .int w)]) dX11_wearDown_13 (by decide) rfl ?_
  refine z_iload X (pc := 15) 0 dX11_wearDown_15 rfl ?_
  refine z_iload_n X (pc := 17) 1 dX11_wearDown_17 rfl rfl ?_
  refine z_icmp_ge X (pc := 18) (tgt := 25) dX11_wearDown_18 (by decide) (fun c18 => ?_) (fun c18 => ?_)
  · refine z_iload X (pc := 25) 0 dX11_wearDown_25 rfl ?_
    refine z_iload_n X (pc := 27) 1 dX11_wearDown_27 rfl rfl ?_
    refine z_isub X (pc := 28) dX11_wearDown_28 ?_
    refine z_istore X (pc := 29) (lv1 := [(5, .int ((g 3 c) - (wearOf g c w))), (4, .int (g 3 c)), (3, .int (wearOf g c w)), (0, .ref (za E 32 0)), (1, .int (nI c)), (2, .int w)]) dX11_wearDown_29 (by decide) rfl ?_
    refine z_aload_n X (pc := 31) 3 dX11_wearDown_31 rfl rfl ?_
    refine z_iload_n X (pc := 32) 4 dX11_wearDown_32 rfl rfl ?_
    refine z_iconst X (pc := 33) (v := 3) dX11_wearDown_33 (by decide) ?_
    refine z_iload X (pc := 34) 0 dX11_wearDown_34 rfl ?_
    refine z_callV X (pc := 36) (rest := []) kv_X11_putChair (c_X11_putChair E M g (And.left (SF.rf hg)) c 3 ((g 3 c) - (wearOf g c w)) (show c < 10 by omega) (by decide)) zk_32_0 (zc_32_0 E _) rfl rfl gw_261 (by decide) rfl rfl (Nat.le_of_ble_eq_true rfl) dX11_wearDown_36 (zk_rv (fun M_1 hS_2 => ?_))
    refine z_iload_n X (pc := 39) 2 dX11_wearDown_39 rfl rfl ?_
    refine z_if_le X (pc := 40) (tgt := 59) dX11_wearDown_40 (by decide) (fun c40 => ?_) (fun c40 => ?_)
    · exact z_vret X Y dX11_wearDown_59 ⟨rfl, by rw [wearD_3 h3 hq hwr c40 (standW_b h3 hwr c18)]; exact ((SF.rf hg).trans hS_2)⟩
    · refine z_iload X (pc := 43) 0 dX11_wearDown_43 rfl ?_
      refine z_if_ne X (pc := 45) (tgt := 59) dX11_wearDown_45 (by decide) (fun c45 => ?_) (fun c45 => ?_)
      · exact z_vret X Y dX11_wearDown_59 ⟨rfl, by rw [wearD_2 hq c40 (standW_b h3 hwr c18) c45]; exact ((SF.rf hg).trans hS_2)⟩
      · refine z_aload_n X (pc := 48) 3 dX11_wearDown_48 rfl rfl ?_
        refine z_aload_n X (pc := 49) 3 dX11_wearDown_49 rfl rfl ?_
        refine z_iload_n X (pc := 50) 4 dX11_wearDown_50 rfl rfl ?_
        refine z_bipush X (pc := 51) (v := 6) dX11_wearDown_51 (by decide) ?_
        refine z_callV X (pc := 53) (rest := [.ref (za E 32 0)]) kv_X11_ofChair (c_X11_ofChair E M_1 (gu g 3 c ((g 3 c) - (wearOf g c w))) (And.left ((SF.rf hg).trans hS_2)) c 6 (show c < 10 by omega) (by decide)) zk_32_0 (zc_32_0 E _) rfl rfl gw_323 (by decide) rfl rfl (Nat.le_of_ble_eq_true rfl) dX11_wearDown_53 (zk_i ?_)
        obtain ⟨m, hm, h6, h12, h0⟩ := hq.pos c40
        refine z_top (y := (nI m)) (by rw [gu_ne (by omega)]; exact h6) ?_
        refine z_callV X (pc := 56) (rest := []) kv_X11_standUp (c_X11_standUp E M_1 (gu g 3 c ((g 3 c) - (wearOf g c w))) (And.left ((SF.rf hg).trans hS_2)) m (show m < 10 by omega) (by rw [gu_ne (by omega)]; exact h12)) zk_32_0 (zc_32_0 E _) rfl rfl gw_495 (by decide) rfl rfl (Nat.le_of_ble_eq_true rfl) dX11_wearDown_56 (zk_rv (fun M_3 hS_4 => ?_))
        exact z_vret X Y dX11_wearDown_59 ⟨rfl, by rw [wearD_1 h6 c40 (standW_b h3 hwr c18) c45]; exact (((SF.rf hg).trans hS_2).trans hS_4)⟩
  · refine z_iconst X (pc := 21) (v := 0) dX11_wearDown_21 (by decide) ?_
    refine z_goto X (pc := 22) (tgt := 29) dX11_wearDown_22 (by decide) ?_
    refine z_istore X (pc := 29) (lv1 := [(5, .int 0), (4, .int (g 3 c)), (3, .int (wearOf g c w)), (0, .ref (za E 32 0)), (1, .int (nI c)), (2, .int w)]) dX11_wearDown_29 (by decide) rfl ?_
    refine z_aload_n X (pc := 31) 3 dX11_wearDown_31 rfl rfl ?_
    refine z_iload_n X (pc := 32) 4 dX11_wearDown_32 rfl rfl ?_
    refine z_iconst X (pc := 33) (v := 3) dX11_wearDown_33 (by decide) ?_
    refine z_iload X (pc := 34) 0 dX11_wearDown_34 rfl ?_
    refine z_callV X (pc := 36) (rest := []) kv_X11_putChair (c_X11_putChair E M g (And.left (SF.rf hg)) c 3 0 (show c < 10 by omega) (by decide)) zk_32_0 (zc_32_0 E _) rfl rfl gw_261 (by decide) rfl rfl (Nat.le_of_ble_eq_true rfl) dX11_wearDown_36 (zk_rv (fun M_5 hS_6 => ?_))
    refine z_iload_n X (pc := 39) 2 dX11_wearDown_39 rfl rfl ?_
    refine z_if_le X (pc := 40) (tgt := 59) dX11_wearDown_40 (by decide) (fun c40 => ?_) (fun c40 => ?_)
    · exact z_vret X Y dX11_wearDown_59 ⟨rfl, by rw [wearD_3 h3 hq hwr c40 (standW_a h3 hwr c18)]; exact ((SF.rf hg).trans hS_6)⟩
    · refine z_iload X (pc := 43) 0 dX11_wearDown_43 rfl ?_
      refine z_if_ne X (pc := 45) (tgt := 59) dX11_wearDown_45 (by decide) (fun c45 => ?_) (fun c45 => ?_)
      · exact absurd c45 (by decide)
      · refine z_aload_n X (pc := 48) 3 dX11_wearDown_48 rfl rfl ?_
        refine z_aload_n X (pc := 49) 3 dX11_wearDown_49 rfl rfl ?_
        refine z_iload_n X (pc := 50) 4 dX11_wearDown_50 rfl rfl ?_
        refine z_bipush X (pc := 51) (v := 6) dX11_wearDown_51 (by decide) ?_
        refine z_callV X (pc := 53) (rest := [.ref (za E 32 0)]) kv_X11_ofChair (c_X11_ofChair E M_5 (gu g 3 c 0) (And.left ((SF.rf hg).trans hS_6)) c 6 (show c < 10 by omega) (by decide)) zk_32_0 (zc_32_0 E _) rfl rfl gw_323 (by decide) rfl rfl (Nat.le_of_ble_eq_true rfl) dX11_wearDown_53 (zk_i ?_)
        obtain ⟨m, hm, h6, h12, h0⟩ := hq.pos c40
        refine z_top (y := (nI m)) (by rw [gu_ne (by omega)]; exact h6) ?_
        refine z_callV X (pc := 56) (rest := []) kv_X11_standUp (c_X11_standUp E M_5 (gu g 3 c 0) (And.left ((SF.rf hg).trans hS_6)) m (show m < 10 by omega) (by rw [gu_ne (by omega)]; exact h12)) zk_32_0 (zc_32_0 E _) rfl rfl gw_495 (by decide) rfl rfl (Nat.le_of_ble_eq_true rfl) dX11_wearDown_56 (zk_rv (fun M_7 hS_8 => ?_))
        exact z_vret X Y dX11_wearDown_59 ⟨rfl, by rw [wearD_1 h6 c40 (standW_a h3 hwr c18) c45]; exact (((SF.rf hg).trans hS_6).trans hS_8)⟩

def rm_X11_concert : Room := { frames := 3, cells := 0, slots := 0, locals := 70 }
theorem kv_X11_concert : KV yX11_concert RX11 cX11_concert 6 (some .int) 1 := ⟨⟨gw_705, gw_706, gw_5, gw_707⟩, by decide +kernel⟩
set_option maxRecDepth 100000 in
set_option maxHeartbeats 4000000 in
theorem c_X11_concert (E : ZE) (M : Mem) (g : LG) (hg : gF (M 20 0) = g) (nc nm n : Nat) (hI : Inv g nc nm n) (rs : Rs) (hR : RSm M rs) (hs : List LG) (hH : HM M hs) (tx : Bool) (htx : M 32 0 11 = zb tx) (v : Int32) (hn9 : n < 100000) : Mt E yX11_concert cX11_concert 6 (some .int) rm_X11_concert [.ref (za E 32 0), .int v] M (RI (fun v0 M1 => MX M g hs tx (oConcert g rs v) v0 M1)) := by
  have hnc := hI.nc; have hnm := hI.nm; have hn := hI.c10; have hn2 := hI.m10; have hcs := cntB_le (sits g) nm
  refine z_met (own := RX11) (lv := [(0, .ref (za E 32 0)), (1, .int v)]) (by decide) rfl (Nat.le_of_ble_eq_true rfl) rfl (fun gg X Y => ?_)
  refine z_iload_n X (pc := 0) 1 dX11_concert_0 rfl rfl ?_
  refine z_iconst X (pc := 1) (v := 1) dX11_concert_1 (by decide) ?_
  refine z_iconst X (pc := 2) (v := 4) dX11_concert_2 (by decide) ?_
  refine z_callS X (pc := 3) (rest := []) ks_X11_isBetween (c_X11_isBetween E M v 1 4) gw_240 (by decide) rfl rfl (Nat.le_of_ble_eq_true rfl) dX11_concert_3 (zk_i ?_)
  refine z_bif_ne X (pc := 6) (tgt := 13) dX11_concert_6 (by decide) (fun c6 => ?_) (fun c6 => ?_)
  · refine z_aload_n X (pc := 13) 0 dX11_concert_13 rfl rfl ?_
    refine z_aload_n X (pc := 14) 0 dX11_concert_14 rfl rfl ?_
    refine z_callV X (pc := 15) (rest := [.ref (za E 32 0)]) kv_X11_sitting (c_X11_sitting E M g (And.left (SF.rf hg)) nm hnm (by omega) (fun m hm => (hI.nor12 hm).le (by omega))) zk_32_0 (zc_32_0 E _) rfl rfl gw_474 (by decide) rfl rfl (Nat.le_of_ble_eq_true rfl) dX11_concert_15 (zk_i ?_)
    refine z_nif_ne X (pc := 18) (tgt := 25) dX11_concert_18 (by decide) (by omega) (fun c18 => ?_) (fun c18 => ?_)
    · refine z_iconst X (pc := 25) (v := 0) dX11_concert_25 (by decide) ?_
      refine z_bipush X (pc := 26) (v := 11) dX11_concert_26 (by decide) ?_
      refine z_aload_n X (pc := 28) 0 dX11_concert_28 rfl rfl ?_
      refine z_get X (pc := 29) 0 zk_32_0 (zc_32_0 E _) rfl inlX11 (by decide) gw_138 rfl rfl dX11_concert_29 ?_
      refine z_bipush X (pc := 32) (v := 8) dX11_concert_32 (by decide) ?_
      refine z_iald X (pc := 34) (by decide) (show (8 : Int32) = nI 8 from rfl) (by decide) dX11_concert_34 ?_
      refine z_top (y := (nI nm)) ((SF.bk (SF.rf hg) (by decide)).trans hnm) ?_
      refine z_callV X (pc := 35) (rest := []) kv_X11_refuse (c_X11_refuse_no E M 11 (nI nm)) zk_32_0 (zc_32_0 E _) rfl rfl gw_243 (by decide) rfl rfl (Nat.le_of_ble_eq_true rfl) dX11_concert_35 (zk_i ?_)
      refine z_if_eq X (pc := 38) (tgt := 45) dX11_concert_38 (by decide) (fun c38 => ?_) (fun c38 => ?_)
      · have hvr : rng v 1 4 := inB_rng (lo := 1) (hi := 4) c6 (by decide) (by decide)
        refine z_aload_n X (pc := 45) 0 dX11_concert_45 rfl rfl ?_
        refine z_callV X (pc := 46) (rest := []) kv_X11_change (c_X11_change E M g (And.left (SF.rf hg)) hs hH tx htx) zk_32_0 (zc_32_0 E _) rfl rfl gw_248 (by decide) rfl rfl (Nat.le_of_ble_eq_true rfl) dX11_concert_46 (zk_rv (fun M_1 hC_2 => ?_))
        refine z_iconst X (pc := 49) (v := 0) dX11_concert_49 (by decide) ?_
        refine z_istore_n X (pc := 50) (lv1 := [(2, .int 0), (0, .ref (za E 32 0)), (1, .int v)]) dX11_concert_50 rfl (by decide) rfl ?_
        refine z_iconst X (pc := 51) (v := 0) dX11_concert_51 (by decide) ?_
        refine z_istore_n X (pc := 52) (lv1 := [(3, .int 0), (2, .int 0), (0, .ref (za E 32 0)), (1, .int v)]) dX11_concert_52 rfl (by decide) rfl ?_
        refine z_sub (lv' := [(3, .int (nI 0)), (2, .int (musS g 0)), (0, .ref (za E 32 0)), (1, .int v)]) [0, 1, 2, 3] rfl ?_
        refine z_loop (nm) 53 (σ := Mem) (fun i s => SF M_1 (musP g i) s) (fun i s => (s, [(3, .int (nI i)), (2, .int (musS g i)), (0, .ref (za E 32 0)), (1, .int v)])) ?_ 0 M_1 (Nat.zero_le _) (SF.rf (hC_2.2.g20 hg))
        intro i s hi53 hJ53 ih53
        obtain ⟨M8, rfl⟩ : ∃ z, z = s := ⟨s, rfl⟩
        show Z gg E M8 [(3, .int (nI i)), (2, .int (musS g i)), (0, .ref (za E 32 0)), (1, .int v)] 53 []
        replace hJ53 : SF M_1 (musP g i) M8 := hJ53
        refine z_iload_n X (pc := 53) 0 dX11_concert_53 rfl rfl ?_
        refine z_aload_n X (pc := 54) 2 dX11_concert_54 rfl rfl ?_
        refine z_get X (pc := 55) 0 zk_32_0 (zc_32_0 E _) rfl inlX11 (by decide) gw_138 rfl rfl dX11_concert_55 ?_
        refine z_bipush X (pc := 58) (v := 8) dX11_concert_58 (by decide) ?_
        refine z_iald X (pc := 60) (by decide) (show (8 : Int32) = nI 8 from rfl) (by decide) dX11_concert_60 ?_
        refine z_top (y := (nI nm)) ((SF.bk hJ53 (by decide)).trans ((musP_off (by decide)).trans hnm)) ?_
        refine z_nicmp_ge X (pc := 61) (a := i) (b := nm) (tgt := 139) dX11_concert_61 (by decide) (by omega) (by omega) (fun c61 => ?_) (fun c61 => ?_)
        · obtain rfl : nm = i := by omega
          refine z_iconst X (pc := 139) (v := 0) dX11_concert_139 (by decide) ?_
          refine z_istore_n X (pc := 140) (lv1 := [(3, .int 0), (2, .int (musS g nm)), (0, .ref (za E 32 0)), (1, .int v)]) dX11_concert_140 rfl (by decide) rfl ?_
          refine z_sub (lv' := [(3, .int (nI 0)), (2, .int (musS g nm)), (0, .ref (za E 32 0)), (1, .int v)]) [0, 1, 2, 3] rfl ?_
          refine z_loop (nc) 141 (σ := Mem) (fun j s => SF M_1 (wearN (musP g nm) v j) s) (fun j s => (s, [(3, .int (nI j)), (2, .int (musS g nm)), (0, .ref (za E 32 0)), (1, .int v)])) ?_ 0 M8 (Nat.zero_le _) hJ53
          intro j s hi141 hJ141 ih141
          obtain ⟨M9, rfl⟩ : ∃ z, z = s := ⟨s, rfl⟩
          show Z gg E M9 [(3, .int (nI j)), (2, .int (musS g nm)), (0, .ref (za E 32 0)), (1, .int v)] 141 []
          replace hJ141 : SF M_1 (wearN (musP g nm) v j) M9 := hJ141
          refine z_iload_n X (pc := 141) 0 dX11_concert_141 rfl rfl ?_
          refine z_aload_n X (pc := 142) 2 dX11_concert_142 rfl rfl ?_
          refine z_get X (pc := 143) 0 zk_32_0 (zc_32_0 E _) rfl inlX11 (by decide) gw_138 rfl rfl dX11_concert_143 ?_
          refine z_bipush X (pc := 146) (v := 7) dX11_concert_146 (by decide) ?_
          refine z_iald X (pc := 148) (by decide) (show (7 : Int32) = nI 7 from rfl) (by decide) dX11_concert_148 ?_
          refine z_top (y := (nI nc)) ((SF.bk hJ141 (by decide)).trans ((wearN_14).trans ((musP_off (by decide)).trans hnc))) ?_
          refine z_nicmp_ge X (pc := 149) (a := j) (b := nc) (tgt := 164) dX11_concert_149 (by decide) (by omega) (by omega) (fun c149 => ?_) (fun c149 => ?_)
          · obtain rfl : nc = j := by omega
            have hce := concert_eq (w := v) hI
            rw [hce.1] at hJ141
            obtain ⟨kz, hkz, ez⟩ := (conC_inv hI hn9 hvr (Nat.le_refl nc)).2.2
            refine z_eq (lv' := [(3, .int (nI nc)), (2, .int ((conC g v nc).2)), (0, .ref (za E 32 0)), (1, .int v)]) (by rw [hce.2]) rfl ?_
            refine z_aload_n X (pc := 164) 2 dX11_concert_164 rfl rfl ?_
            refine z_get X (pc := 165) 0 zk_32_0 (zc_32_0 E _) rfl inlX11 (by decide) gw_138 rfl rfl dX11_concert_165 ?_
            refine z_iconst X (pc := 168) (v := 4) dX11_concert_168 (by decide) ?_
            refine z_dup2 X (pc := 169) dX11_concert_169 rfl rfl ?_
            refine z_iald X (pc := 170) (by decide) (show (4 : Int32) = nI 4 from rfl) (by decide) dX11_concert_170 ?_
            refine z_top (y := ((conC g v nc).1 14 4)) (SF.bk hJ141 (by decide)) ?_
            refine z_iconst X (pc := 171) (v := 1) dX11_concert_171 (by decide) ?_
            refine z_iadd X (pc := 172) dX11_concert_172 ?_
            refine z_iast X (pc := 173) (by decide) (show (4 : Int32) = nI 4 from rfl) (by decide) dX11_concert_173 ?_
            refine z_gen (SF.pbk hJ141 (by decide)) (fun M_3 hS_4 => ?_)
            refine z_iload_n X (pc := 174) 1 dX11_concert_174 rfl rfl ?_
            exact z_iret X Y dX11_concert_175 ⟨_, rfl, MX.done hR hC_2 (And.left hS_4) (SF.fq hS_4) (by rw [ez]; exact nI_pos (by omega)) (by simp [oConcert, conC_14, hI.cNe, hI.mNe, gu_r, c6, c18, c38, c61, (Nat.not_lt.mpr c61), c149, (Nat.not_lt.mpr c149)])⟩
          · refine z_aload_n X (pc := 152) 2 dX11_concert_152 rfl rfl ?_
            refine z_iload_n X (pc := 153) 0 dX11_concert_153 rfl rfl ?_
            refine z_iload_n X (pc := 154) 3 dX11_concert_154 rfl rfl ?_
            refine z_callV X (pc := 155) (rest := []) kv_X11_wearDown (c_X11_wearDown E M9 (wearN (musP g nm) v j) (And.left hJ141) j (by omega) v (wearN_3 hI (show j < nc by omega)) hvr (wearN_hyp hI (show j < nc by omega))) zk_32_0 (zc_32_0 E _) rfl rfl gw_712 (by decide) rfl rfl (Nat.le_of_ble_eq_true rfl) dX11_concert_155 (zk_rv (fun M_5 hS_6 => ?_))
            refine z_iinc X (pc := 158) (v := (nI (j + 1))) (lv1 := [(3, .int (nI (j + 1))), (2, .int (musS g nm)), (0, .ref (za E 32 0)), (1, .int v)]) 0 dX11_concert_158 rfl (nI_1 _) (by decide) rfl ?_
            refine z_goto X (pc := 161) (tgt := 141) dX11_concert_161 (by decide) ?_
            refine z_sub (lv' := [(3, .int (nI (j + 1))), (2, .int (musS g nm)), (0, .ref (za E 32 0)), (1, .int v)]) [0, 1, 2, 3] rfl ?_
            exact ih141 M_5 (by omega) (hJ141.trans hS_6)
        · refine z_aload_n X (pc := 64) 2 dX11_concert_64 rfl rfl ?_
          refine z_iload_n X (pc := 65) 0 dX11_concert_65 rfl rfl ?_
          refine z_iconst X (pc := 66) (v := 5) dX11_concert_66 (by decide) ?_
          refine z_callV X (pc := 67) (rest := []) kv_X11_of (c_X11_of E M8 (musP g i) (And.left hJ53) i 5 (show i < 10 by omega) (by decide)) zk_32_0 (zc_32_0 E _) rfl rfl gw_354 (by decide) rfl rfl (Nat.le_of_ble_eq_true rfl) dX11_concert_67 (zk_i ?_)
          refine z_top (y := (g 12 i)) (musP_offr (by decide)) ?_
          rcases hI.nor12 (show i < nm by omega) with hp70 | ⟨k70, hk70, hp70⟩
          · refine z_top (y := ((-1))) hp70 ?_
            refine z_istore X (pc := 70) (lv1 := [(4, .int ((-1))), (3, .int (nI i)), (2, .int (musS g i)), (0, .ref (za E 32 0)), (1, .int v)]) dX11_concert_70 (by decide) rfl ?_
            refine z_iload X (pc := 72) 0 dX11_concert_72 rfl ?_
            refine z_if_lt X (pc := 74) (tgt := 133) dX11_concert_74 (by decide) (fun c74 => ?_) (fun c74 => ?_)
            · refine z_iinc X (pc := 133) (v := (nI (i + 1))) (lv1 := [(3, .int (nI (i + 1))), (4, .int ((-1))), (2, .int (musS g i)), (0, .ref (za E 32 0)), (1, .int v)]) 1 dX11_concert_133 rfl (nI_1 _) (by decide) rfl ?_
              refine z_goto X (pc := 136) (tgt := 53) dX11_concert_136 (by decide) ?_
              refine z_sub (lv' := [(3, .int (nI (i + 1))), (2, .int (musS g i)), (0, .ref (za E 32 0)), (1, .int v)]) [0, 2, 3, 4] rfl ?_
              refine z_eq (lv' := [(3, .int (nI (i + 1))), (2, .int (musS g (i + 1))), (0, .ref (za E 32 0)), (1, .int v)]) (by simp [musS, sits, st, musP_fit, c6, c18, c38, c61, hp70, c74]) rfl ?_
              exact ih53 M8 (by omega) (by have h := hJ53; simpa [musP, hp70] using h)
            · exact absurd (by decide) c74
          · refine z_top (y := (nI k70)) hp70 ?_
            refine z_istore X (pc := 70) (lv1 := [(4, .int (nI k70)), (3, .int (nI i)), (2, .int (musS g i)), (0, .ref (za E 32 0)), (1, .int v)]) dX11_concert_70 (by decide) rfl ?_
            refine z_iload X (pc := 72) 0 dX11_concert_72 rfl ?_
            refine z_if_lt X (pc := 74) (tgt := 133) dX11_concert_74 (by decide) (fun c74 => ?_) (fun c74 => ?_)
            · exact absurd c74 (nI_pos (by omega))
            · refine z_aload_n X (pc := 77) 3 dX11_concert_77 rfl rfl ?_
              refine z_iload X (pc := 78) 0 dX11_concert_78 rfl ?_
              refine z_iload_n X (pc := 80) 1 dX11_concert_80 rfl rfl ?_
              refine z_callV X (pc := 81) (rest := []) kv_X11_fitOf (c_X11_fitOf E M8 (musP g i) (And.left hJ53) k70 i (show k70 < 10 by omega) (show i < 10 by omega)) zk_32_0 (zc_32_0 E _) rfl rfl gw_382 (by decide) rfl rfl (Nat.le_of_ble_eq_true rfl) dX11_concert_81 (zk_i ?_)
              refine z_istore X (pc := 84) (lv1 := [(5, .int (fit (musP g i) k70 i)), (4, .int (nI k70)), (3, .int (nI i)), (2, .int (musS g i)), (0, .ref (za E 32 0)), (1, .int v)]) dX11_concert_84 (by decide) rfl ?_
              refine z_aload_n X (pc := 86) 4 dX11_concert_86 rfl rfl ?_
              refine z_iload_n X (pc := 87) 2 dX11_concert_87 rfl rfl ?_
              refine z_iload X (pc := 88) 0 dX11_concert_88 rfl ?_
              refine z_iconst X (pc := 90) (v := 3) dX11_concert_90 (by decide) ?_
              refine z_idiv X (pc := 91) dX11_concert_91 (by decide) ?_
              refine z_callV X (pc := 92) (rest := []) kv_X11_pay (c_X11_pay E M8 (musP g i) (And.left hJ53) i (show i < 10 by omega) ((fit (musP g i) k70 i) / 3)) zk_32_0 (zc_32_0 E _) rfl rfl gw_708 (by decide) rfl rfl (Nat.le_of_ble_eq_true rfl) dX11_concert_92 (zk_rv (fun M_7 hS_8 => ?_))
              refine z_aload_n X (pc := 95) 4 dX11_concert_95 rfl rfl ?_
              refine z_iload X (pc := 96) 1 dX11_concert_96 rfl ?_
              refine z_iconst X (pc := 98) (v := 5) dX11_concert_98 (by decide) ?_
              refine z_aload_n X (pc := 99) 4 dX11_concert_99 rfl rfl ?_
              refine z_iload X (pc := 100) 1 dX11_concert_100 rfl ?_
              refine z_iconst X (pc := 102) (v := 5) dX11_concert_102 (by decide) ?_
              refine z_callV X (pc := 103) (rest := [.int 5, .int (nI k70), .ref (za E 32 0)]) kv_X11_ofChair (c_X11_ofChair E M_7 (payG (musP g i) i ((fit (musP g i) k70 i) / 3)) (And.left (hJ53.trans hS_8)) k70 5 (show k70 < 10 by omega) (by decide)) zk_32_0 (zc_32_0 E _) rfl rfl gw_323 (by decide) rfl rfl (Nat.le_of_ble_eq_true rfl) dX11_concert_103 (zk_i ?_)
              refine z_iload X (pc := 106) 0 dX11_concert_106 rfl ?_
              refine z_iadd X (pc := 108) dX11_concert_108 ?_
              refine z_callV X (pc := 109) (rest := []) kv_X11_putChair (c_X11_putChair E M_7 (payG (musP g i) i ((fit (musP g i) k70 i) / 3)) (And.left (hJ53.trans hS_8)) k70 5 (((payG (musP g i) i ((fit (musP g i) k70 i) / 3)) 5 k70) + (fit (musP g i) k70 i)) (show k70 < 10 by omega) (by decide)) zk_32_0 (zc_32_0 E _) rfl rfl gw_261 (by decide) rfl rfl (Nat.le_of_ble_eq_true rfl) dX11_concert_109 (zk_rv (fun M_9 hS_10 => ?_))
              refine z_aload_n X (pc := 112) 4 dX11_concert_112 rfl rfl ?_
              refine z_iload_n X (pc := 113) 2 dX11_concert_113 rfl rfl ?_
              refine z_bipush X (pc := 114) (v := 6) dX11_concert_114 (by decide) ?_
              refine z_aload_n X (pc := 116) 4 dX11_concert_116 rfl rfl ?_
              refine z_iload_n X (pc := 117) 2 dX11_concert_117 rfl rfl ?_
              refine z_bipush X (pc := 118) (v := 6) dX11_concert_118 (by decide) ?_
              refine z_callV X (pc := 120) (rest := [.int 6, .int (nI i), .ref (za E 32 0)]) kv_X11_of (c_X11_of E M_9 (gu (payG (musP g i) i ((fit (musP g i) k70 i) / 3)) 5 k70 (((payG (musP g i) i ((fit (musP g i) k70 i) / 3)) 5 k70) + (fit (musP g i) k70 i))) (And.left ((hJ53.trans hS_8).trans hS_10)) i 6 (show i < 10 by omega) (by decide)) zk_32_0 (zc_32_0 E _) rfl rfl gw_354 (by decide) rfl rfl (Nat.le_of_ble_eq_true rfl) dX11_concert_120 (zk_i ?_)
              refine z_iconst X (pc := 123) (v := 1) dX11_concert_123 (by decide) ?_
              refine z_iadd X (pc := 124) dX11_concert_124 ?_
              refine z_callV X (pc := 125) (rest := []) kv_X11_put (c_X11_put E M_9 (gu (payG (musP g i) i ((fit (musP g i) k70 i) / 3)) 5 k70 (((payG (musP g i) i ((fit (musP g i) k70 i) / 3)) 5 k70) + (fit (musP g i) k70 i))) (And.left ((hJ53.trans hS_8).trans hS_10)) i 6 (((gu (payG (musP g i) i ((fit (musP g i) k70 i) / 3)) 5 k70 (((payG (musP g i) i ((fit (musP g i) k70 i) / 3)) 5 k70) + (fit (musP g i) k70 i))) 13 i) + 1) (show i < 10 by omega) (by decide)) zk_32_0 (zc_32_0 E _) rfl rfl gw_284 (by decide) rfl rfl (Nat.le_of_ble_eq_true rfl) dX11_concert_125 (zk_rv (fun M_11 hS_12 => ?_))
              refine z_iload_n X (pc := 128) 3 dX11_concert_128 rfl rfl ?_
              refine z_iload X (pc := 129) 0 dX11_concert_129 rfl ?_
              refine z_iadd X (pc := 131) dX11_concert_131 ?_
              refine z_istore_n X (pc := 132) (lv1 := [(2, .int ((musS g i) + (fit (musP g i) k70 i))), (5, .int (fit (musP g i) k70 i)), (4, .int (nI k70)), (3, .int (nI i)), (0, .ref (za E 32 0)), (1, .int v)]) dX11_concert_132 rfl (by decide) rfl ?_
              refine z_iinc X (pc := 133) (v := (nI (i + 1))) (lv1 := [(3, .int (nI (i + 1))), (2, .int ((musS g i) + (fit (musP g i) k70 i))), (5, .int (fit (musP g i) k70 i)), (4, .int (nI k70)), (0, .ref (za E 32 0)), (1, .int v)]) 3 dX11_concert_133 rfl (nI_1 _) (by decide) rfl ?_
              refine z_goto X (pc := 136) (tgt := 53) dX11_concert_136 (by decide) ?_
              refine z_sub (lv' := [(3, .int (nI (i + 1))), (2, .int ((musS g i) + (fit (musP g i) k70 i))), (0, .ref (za E 32 0)), (1, .int v)]) [0, 1, 4, 5] rfl ?_
              refine z_eq (lv' := [(3, .int (nI (i + 1))), (2, .int (musS g (i + 1))), (0, .ref (za E 32 0)), (1, .int v)]) (by simp [musS, sits, st, musP_fit, c6, c18, c38, c61, hp70, nI_ne_m1 (show k70 < 2 ^ 31 by omega), nI_clamp (show k70 < 2 ^ 31 by omega), c74]) rfl ?_
              exact ih53 M_11 (by omega) (by have h := (((hJ53.trans hS_8).trans hS_10).trans hS_12); rw [playM_eq (musP_rng hI (by omega)) (by rw [musP_fit]; exact payC_rng hI hk70 (by omega))] at h; simpa [musP, st, hp70, nI_ne_m1 (show k70 < 2 ^ 31 by omega), nI_clamp (show k70 < 2 ^ 31 by omega)] using h)
      · exact absurd (by decide) c38
    · refine z_iconst X (pc := 21) (v := 1) dX11_concert_21 (by decide) ?_
      refine z_goto X (pc := 22) (tgt := 26) dX11_concert_22 (by decide) ?_
      refine z_bipush X (pc := 26) (v := 11) dX11_concert_26 (by decide) ?_
      refine z_aload_n X (pc := 28) 0 dX11_concert_28 rfl rfl ?_
      refine z_get X (pc := 29) 0 zk_32_0 (zc_32_0 E _) rfl inlX11 (by decide) gw_138 rfl rfl dX11_concert_29 ?_
      refine z_bipush X (pc := 32) (v := 8) dX11_concert_32 (by decide) ?_
      refine z_iald X (pc := 34) (by decide) (show (8 : Int32) = nI 8 from rfl) (by decide) dX11_concert_34 ?_
      refine z_top (y := (nI nm)) ((SF.bk (SF.rf hg) (by decide)).trans hnm) ?_
      refine z_callV X (pc := 35) (rest := []) kv_X11_refuse (c_X11_refuse E M 11 (nI nm)) zk_32_0 (zc_32_0 E _) rfl rfl gw_243 (by decide) rfl rfl (Nat.le_of_ble_eq_true rfl) dX11_concert_35 (zk_ri (fun v_15 M_13 h_14 => ?_))
      refine z_top (y := 1) h_14.1 ?_
      refine z_if_eq X (pc := 38) (tgt := 45) dX11_concert_38 (by decide) (fun c38 => ?_) (fun c38 => ?_)
      · exact absurd c38 (by decide)
      · refine z_sipush X (pc := 41) (v := (-1014)) dX11_concert_41 (by decide) ?_
        exact z_iret X Y dX11_concert_44 ⟨_, rfl, MX.refuse (rs := [(11, (nI nm))]) hg hH h_14.2 (by decide) (by simp [oConcert, conC_14, hI.cNe, hI.mNe, gu_r, c6, c18, c38]) (Nat.le_of_ble_eq_true rfl)⟩
  · refine z_sipush X (pc := 9) (v := (-1012)) dX11_concert_9 (by decide) ?_
    exact z_iret X Y dX11_concert_12 ⟨_, rfl, MX.same hg hH hR (by decide) (by simp [oConcert, conC_14, hI.cNe, hI.mNe, gu_r, c6])⟩

def rm_X11_raise : Room := { frames := 3, cells := 0, slots := 0, locals := 64 }
theorem kv_X11_raise : KV yX11_raise RX11 cX11_raise 2 (some .int) 1 := ⟨⟨gw_740, gw_741, gw_5, gw_742⟩, by decide +kernel⟩
set_option maxRecDepth 100000 in
set_option maxHeartbeats 4000000 in
theorem c_X11_raise (E : ZE) (M : Mem) (g : LG) (hg : gF (M 20 0) = g) (nc nm n : Nat) (hI : Inv g nc nm n) (rs : Rs) (hR : RSm M rs) (hs : List LG) (hH : HM M hs) (tx : Bool) (htx : M 32 0 11 = zb tx) (x : Int32) : Mt E yX11_raise cX11_raise 2 (some .int) rm_X11_raise [.ref (za E 32 0), .int x] M (RI (fun v0 M1 => MX M g hs tx (oRaise g rs x) v0 M1)) := by
  have hnc := hI.nc; have hnm := hI.nm; have hn := hI.c10; have hn2 := hI.m10
  refine z_met (own := RX11) (lv := [(0, .ref (za E 32 0)), (1, .int x)]) (by decide) rfl (Nat.le_of_ble_eq_true rfl) rfl (fun gg X Y => ?_)
  refine z_aload_n X (pc := 0) 0 dX11_raise_0 rfl rfl ?_
  refine z_iload_n X (pc := 1) 1 dX11_raise_1 rfl rfl ?_
  refine z_callV X (pc := 2) (rest := []) kv_X11_isChair (c_X11_isChair E M g (And.left (SF.rf hg)) nc hnc (by omega) x) zk_32_0 (zc_32_0 E _) rfl rfl gw_319 (by decide) rfl rfl (Nat.le_of_ble_eq_true rfl) dX11_raise_2 (zk_i ?_)
  refine z_bif_ne X (pc := 5) (tgt := 12) dX11_raise_5 (by decide) (fun c5 => ?_) (fun c5 => ?_)
  · obtain ⟨c, hc, rfl⟩ := inR_of c5 (by omega)
    refine z_aload_n X (pc := 12) 0 dX11_raise_12 rfl rfl ?_
    refine z_aload_n X (pc := 13) 0 dX11_raise_13 rfl rfl ?_
    refine z_iload_n X (pc := 14) 1 dX11_raise_14 rfl rfl ?_
    refine z_iconst X (pc := 15) (v := 3) dX11_raise_15 (by decide) ?_
    refine z_callV X (pc := 16) (rest := [.ref (za E 32 0)]) kv_X11_ofChair (c_X11_ofChair E M g (And.left (SF.rf hg)) c 3 (show c < 10 by omega) (by decide)) zk_32_0 (zc_32_0 E _) rfl rfl gw_323 (by decide) rfl rfl (Nat.le_of_ble_eq_true rfl) dX11_raise_16 (zk_i ?_)
    refine z_iconst X (pc := 19) (v := 3) dX11_raise_19 (by decide) ?_
    refine z_icmp_lt X (pc := 20) (tgt := 27) dX11_raise_20 (by decide) (fun c20 => ?_) (fun c20 => ?_)
    · refine z_iconst X (pc := 27) (v := 0) dX11_raise_27 (by decide) ?_
      refine z_bipush X (pc := 28) (v := 12) dX11_raise_28 (by decide) ?_
      refine z_aload_n X (pc := 30) 0 dX11_raise_30 rfl rfl ?_
      refine z_iload_n X (pc := 31) 1 dX11_raise_31 rfl rfl ?_
      refine z_iconst X (pc := 32) (v := 3) dX11_raise_32 (by decide) ?_
      refine z_callV X (pc := 33) (rest := [.int 12, .int 0, .ref (za E 32 0)]) kv_X11_ofChair (c_X11_ofChair E M g (And.left (SF.rf hg)) c 3 (show c < 10 by omega) (by decide)) zk_32_0 (zc_32_0 E _) rfl rfl gw_323 (by decide) rfl rfl (Nat.le_of_ble_eq_true rfl) dX11_raise_33 (zk_i ?_)
      refine z_callV X (pc := 36) (rest := []) kv_X11_refuse (c_X11_refuse_no E M 12 (g 3 c)) zk_32_0 (zc_32_0 E _) rfl rfl gw_243 (by decide) rfl rfl (Nat.le_of_ble_eq_true rfl) dX11_raise_36 (zk_i ?_)
      refine z_if_ne X (pc := 39) (tgt := 72) dX11_raise_39 (by decide) (fun c39 => ?_) (fun c39 => ?_)
      · exact absurd c39 (by decide)
      · refine z_aload_n X (pc := 42) 0 dX11_raise_42 rfl rfl ?_
        refine z_aload_n X (pc := 43) 0 dX11_raise_43 rfl rfl ?_
        refine z_get X (pc := 44) 0 zk_32_0 (zc_32_0 E _) rfl inlX11 (by decide) gw_138 rfl rfl dX11_raise_44 ?_
        refine z_iconst X (pc := 47) (v := 0) dX11_raise_47 (by decide) ?_
        refine z_iald X (pc := 48) (by decide) (show (0 : Int32) = nI 0 from rfl) (by decide) dX11_raise_48 ?_
        refine z_top (y := (g 14 0)) (SF.bk (SF.rf hg) (by decide)) ?_
        refine z_iconst X (pc := 49) (v := 2) dX11_raise_49 (by decide) ?_
        refine z_icmp_ge X (pc := 50) (tgt := 57) dX11_raise_50 (by decide) (fun c50 => ?_) (fun c50 => ?_)
        · refine z_iconst X (pc := 57) (v := 0) dX11_raise_57 (by decide) ?_
          refine z_bipush X (pc := 58) (v := 9) dX11_raise_58 (by decide) ?_
          refine z_aload_n X (pc := 60) 0 dX11_raise_60 rfl rfl ?_
          refine z_get X (pc := 61) 0 zk_32_0 (zc_32_0 E _) rfl inlX11 (by decide) gw_138 rfl rfl dX11_raise_61 ?_
          refine z_iconst X (pc := 64) (v := 0) dX11_raise_64 (by decide) ?_
          refine z_iald X (pc := 65) (by decide) (show (0 : Int32) = nI 0 from rfl) (by decide) dX11_raise_65 ?_
          refine z_top (y := (g 14 0)) (SF.bk (SF.rf hg) (by decide)) ?_
          refine z_callV X (pc := 66) (rest := []) kv_X11_refuse (c_X11_refuse_no E M 9 (g 14 0)) zk_32_0 (zc_32_0 E _) rfl rfl gw_243 (by decide) rfl rfl (Nat.le_of_ble_eq_true rfl) dX11_raise_66 (zk_i ?_)
          refine z_if_eq X (pc := 69) (tgt := 76) dX11_raise_69 (by decide) (fun c69 => ?_) (fun c69 => ?_)
          · refine z_aload_n X (pc := 76) 0 dX11_raise_76 rfl rfl ?_
            refine z_callV X (pc := 77) (rest := []) kv_X11_change (c_X11_change E M g (And.left (SF.rf hg)) hs hH tx htx) zk_32_0 (zc_32_0 E _) rfl rfl gw_248 (by decide) rfl rfl (Nat.le_of_ble_eq_true rfl) dX11_raise_77 (zk_rv (fun M_1 hC_2 => ?_))
            refine z_aload_n X (pc := 80) 0 dX11_raise_80 rfl rfl ?_
            refine z_iload_n X (pc := 81) 1 dX11_raise_81 rfl rfl ?_
            refine z_iconst X (pc := 82) (v := 3) dX11_raise_82 (by decide) ?_
            refine z_iconst X (pc := 83) (v := 3) dX11_raise_83 (by decide) ?_
            refine z_callV X (pc := 84) (rest := []) kv_X11_putChair (c_X11_putChair E M_1 g (And.left (SF.rf (hC_2.2.g20 hg))) c 3 3 (show c < 10 by omega) (by decide)) zk_32_0 (zc_32_0 E _) rfl rfl gw_261 (by decide) rfl rfl (Nat.le_of_ble_eq_true rfl) dX11_raise_84 (zk_rv (fun M_3 hS_4 => ?_))
            refine z_aload_n X (pc := 87) 0 dX11_raise_87 rfl rfl ?_
            refine z_get X (pc := 88) 0 zk_32_0 (zc_32_0 E _) rfl inlX11 (by decide) gw_138 rfl rfl dX11_raise_88 ?_
            refine z_iconst X (pc := 91) (v := 0) dX11_raise_91 (by decide) ?_
            refine z_dup2 X (pc := 92) dX11_raise_92 rfl rfl ?_
            refine z_iald X (pc := 93) (by decide) (show (0 : Int32) = nI 0 from rfl) (by decide) dX11_raise_93 ?_
            refine z_top (y := ((gu g 3 c 3) 14 0)) (SF.bk ((SF.rf (hC_2.2.g20 hg)).trans hS_4) (by decide)) ?_
            refine z_iconst X (pc := 94) (v := 2) dX11_raise_94 (by decide) ?_
            refine z_isub X (pc := 95) dX11_raise_95 ?_
            refine z_iast X (pc := 96) (by decide) (show (0 : Int32) = nI 0 from rfl) (by decide) dX11_raise_96 ?_
            refine z_gen (SF.pbk ((SF.rf (hC_2.2.g20 hg)).trans hS_4) (by decide)) (fun M_5 hS_6 => ?_)
            refine z_aload_n X (pc := 97) 0 dX11_raise_97 rfl rfl ?_
            refine z_get X (pc := 98) 0 zk_32_0 (zc_32_0 E _) rfl inlX11 (by decide) gw_138 rfl rfl dX11_raise_98 ?_
            refine z_iconst X (pc := 101) (v := 2) dX11_raise_101 (by decide) ?_
            refine z_dup2 X (pc := 102) dX11_raise_102 rfl rfl ?_
            refine z_iald X (pc := 103) (by decide) (show (2 : Int32) = nI 2 from rfl) (by decide) dX11_raise_103 ?_
            refine z_top (y := ((gu (gu g 3 c 3) 14 0 (((gu g 3 c 3) 14 0) - 2)) 14 2)) (SF.bk hS_6 (by decide)) ?_
            refine z_iconst X (pc := 104) (v := 2) dX11_raise_104 (by decide) ?_
            refine z_iadd X (pc := 105) dX11_raise_105 ?_
            refine z_iast X (pc := 106) (by decide) (show (2 : Int32) = nI 2 from rfl) (by decide) dX11_raise_106 ?_
            refine z_gen (SF.pbk hS_6 (by decide)) (fun M_7 hS_8 => ?_)
            refine z_aload_n X (pc := 107) 0 dX11_raise_107 rfl rfl ?_
            refine z_get X (pc := 108) 0 zk_32_0 (zc_32_0 E _) rfl inlX11 (by decide) gw_138 rfl rfl dX11_raise_108 ?_
            refine z_iconst X (pc := 111) (v := 0) dX11_raise_111 (by decide) ?_
            refine z_iald X (pc := 112) (by decide) (show (0 : Int32) = nI 0 from rfl) (by decide) dX11_raise_112 ?_
            refine z_top (y := ((gu (gu (gu g 3 c 3) 14 0 (((gu g 3 c 3) 14 0) - 2)) 14 2 (((gu (gu g 3 c 3) 14 0 (((gu g 3 c 3) 14 0) - 2)) 14 2) + 2)) 14 0)) (SF.bk hS_8 (by decide)) ?_
            exact z_iret X Y dX11_raise_113 ⟨_, rfl, MX.done hR hC_2 (And.left hS_8) (SF.fq hS_8) (by simpa [gu_r] using raise_pos hI (i32_nlt.mpr c50)) (by rw [oRaise_in hI hc]; simp [oRaiseN, hI.cNe, hI.mNe, gu_r, c20, (i32_nle.mpr c20), c39, c50, (i32_nlt.mpr c50), c69])⟩
          · exact absurd (by decide) c69
        · refine z_iconst X (pc := 53) (v := 1) dX11_raise_53 (by decide) ?_
          refine z_goto X (pc := 54) (tgt := 58) dX11_raise_54 (by decide) ?_
          refine z_bipush X (pc := 58) (v := 9) dX11_raise_58 (by decide) ?_
          refine z_aload_n X (pc := 60) 0 dX11_raise_60 rfl rfl ?_
          refine z_get X (pc := 61) 0 zk_32_0 (zc_32_0 E _) rfl inlX11 (by decide) gw_138 rfl rfl dX11_raise_61 ?_
          refine z_iconst X (pc := 64) (v := 0) dX11_raise_64 (by decide) ?_
          refine z_iald X (pc := 65) (by decide) (show (0 : Int32) = nI 0 from rfl) (by decide) dX11_raise_65 ?_
          refine z_top (y := (g 14 0)) (SF.bk (SF.rf hg) (by decide)) ?_
          refine z_callV X (pc := 66) (rest := []) kv_X11_refuse (c_X11_refuse E M 9 (g 14 0)) zk_32_0 (zc_32_0 E _) rfl rfl gw_243 (by decide) rfl rfl (Nat.le_of_ble_eq_true rfl) dX11_raise_66 (zk_ri (fun v_11 M_9 h_10 => ?_))
          refine z_top (y := 1) h_10.1 ?_
          refine z_if_eq X (pc := 69) (tgt := 76) dX11_raise_69 (by decide) (fun c69 => ?_) (fun c69 => ?_)
          · exact absurd c69 (by decide)
          · refine z_sipush X (pc := 72) (v := (-1014)) dX11_raise_72 (by decide) ?_
            exact z_iret X Y dX11_raise_75 ⟨_, rfl, MX.refuse (rs := [(9, (g 14 0))]) hg hH h_10.2 (by decide) (by rw [oRaise_in hI hc]; simp [oRaiseN, hI.cNe, hI.mNe, gu_r, c20, (i32_nle.mpr c20), c39, c50, (i32_nle.mp c50), c69]) (Nat.le_of_ble_eq_true rfl)⟩
    · refine z_iconst X (pc := 23) (v := 1) dX11_raise_23 (by decide) ?_
      refine z_goto X (pc := 24) (tgt := 28) dX11_raise_24 (by decide) ?_
      refine z_bipush X (pc := 28) (v := 12) dX11_raise_28 (by decide) ?_
      refine z_aload_n X (pc := 30) 0 dX11_raise_30 rfl rfl ?_
      refine z_iload_n X (pc := 31) 1 dX11_raise_31 rfl rfl ?_
      refine z_iconst X (pc := 32) (v := 3) dX11_raise_32 (by decide) ?_
      refine z_callV X (pc := 33) (rest := [.int 12, .int 1, .ref (za E 32 0)]) kv_X11_ofChair (c_X11_ofChair E M g (And.left (SF.rf hg)) c 3 (show c < 10 by omega) (by decide)) zk_32_0 (zc_32_0 E _) rfl rfl gw_323 (by decide) rfl rfl (Nat.le_of_ble_eq_true rfl) dX11_raise_33 (zk_i ?_)
      refine z_callV X (pc := 36) (rest := []) kv_X11_refuse (c_X11_refuse E M 12 (g 3 c)) zk_32_0 (zc_32_0 E _) rfl rfl gw_243 (by decide) rfl rfl (Nat.le_of_ble_eq_true rfl) dX11_raise_36 (zk_ri (fun v_14 M_12 h_13 => ?_))
      refine z_top (y := 1) h_13.1 ?_
      refine z_if_ne X (pc := 39) (tgt := 72) dX11_raise_39 (by decide) (fun c39 => ?_) (fun c39 => ?_)
      · refine z_sipush X (pc := 72) (v := (-1014)) dX11_raise_72 (by decide) ?_
        exact z_iret X Y dX11_raise_75 ⟨_, rfl, MX.refuse (rs := [(12, (g 3 c))]) hg hH h_13.2 (by decide) (by rw [oRaise_in hI hc]; simp [oRaiseN, hI.cNe, hI.mNe, gu_r, c20, (i32_nlt.mp c20), c39]) (Nat.le_of_ble_eq_true rfl)⟩
      · exact absurd c39 (by decide)
  · refine z_sipush X (pc := 8) (v := (-1011)) dX11_raise_8 (by decide) ?_
    exact z_iret X Y dX11_raise_11 ⟨_, rfl, MX.same hg hH hR (by decide) (by simp [oRaise, hI.cNe, hI.mNe, gu_r, c5])⟩

def rm_X11_promote : Room := { frames := 3, cells := 0, slots := 0, locals := 64 }
theorem kv_X11_promote : KV yX11_promote RX11 cX11_promote 4 (some .int) 1 := ⟨⟨gw_752, gw_753, gw_5, gw_754⟩, by decide +kernel⟩
set_option maxRecDepth 100000 in
set_option maxHeartbeats 4000000 in
theorem c_X11_promote (E : ZE) (M : Mem) (g : LG) (hg : gF (M 20 0) = g) (nc nm n : Nat) (hI : Inv g nc nm n) (rs : Rs) (hR : RSm M rs) (hs : List LG) (hH : HM M hs) (tx : Bool) (htx : M 32 0 11 = zb tx) (x : Int32) : Mt E yX11_promote cX11_promote 4 (some .int) rm_X11_promote [.ref (za E 32 0), .int x] M (RI (fun v0 M1 => MX M g hs tx (oPromote g rs x) v0 M1)) := by
  have hnc := hI.nc; have hnm := hI.nm; have hn := hI.c10; have hn2 := hI.m10
  refine z_met (own := RX11) (lv := [(0, .ref (za E 32 0)), (1, .int x)]) (by decide) rfl (Nat.le_of_ble_eq_true rfl) rfl (fun gg X Y => ?_)
  refine z_aload_n X (pc := 0) 0 dX11_promote_0 rfl rfl ?_
  refine z_iload_n X (pc := 1) 1 dX11_promote_1 rfl rfl ?_
  refine z_callV X (pc := 2) (rest := []) kv_X11_isChair (c_X11_isChair E M g (And.left (SF.rf hg)) nc hnc (by omega) x) zk_32_0 (zc_32_0 E _) rfl rfl gw_319 (by decide) rfl rfl (Nat.le_of_ble_eq_true rfl) dX11_promote_2 (zk_i ?_)
  refine z_bif_ne X (pc := 5) (tgt := 12) dX11_promote_5 (by decide) (fun c5 => ?_) (fun c5 => ?_)
  · obtain ⟨c, hc, rfl⟩ := inR_of c5 (by omega)
    refine z_aload_n X (pc := 12) 0 dX11_promote_12 rfl rfl ?_
    refine z_iload_n X (pc := 13) 1 dX11_promote_13 rfl rfl ?_
    refine z_iconst X (pc := 14) (v := 4) dX11_promote_14 (by decide) ?_
    refine z_callV X (pc := 15) (rest := []) kv_X11_ofChair (c_X11_ofChair E M g (And.left (SF.rf hg)) c 4 (show c < 10 by omega) (by decide)) zk_32_0 (zc_32_0 E _) rfl rfl gw_323 (by decide) rfl rfl (Nat.le_of_ble_eq_true rfl) dX11_promote_15 (zk_i ?_)
    refine z_istore_n X (pc := 18) (lv1 := [(2, .int (g 4 c)), (0, .ref (za E 32 0)), (1, .int (nI c))]) dX11_promote_18 rfl (by decide) rfl ?_
    refine z_bipush X (pc := 19) (v := 20) dX11_promote_19 (by decide) ?_
    refine z_iload_n X (pc := 21) 0 dX11_promote_21 rfl rfl ?_
    refine z_iconst X (pc := 22) (v := 1) dX11_promote_22 (by decide) ?_
    refine z_iadd X (pc := 23) dX11_promote_23 ?_
    refine z_imul X (pc := 24) dX11_promote_24 ?_
    refine z_aload_n X (pc := 25) 1 dX11_promote_25 rfl rfl ?_
    refine z_iload_n X (pc := 26) 2 dX11_promote_26 rfl rfl ?_
    refine z_iconst X (pc := 27) (v := 5) dX11_promote_27 (by decide) ?_
    refine z_callV X (pc := 28) (rest := [.int (20 * ((g 4 c) + 1))]) kv_X11_ofChair (c_X11_ofChair E M g (And.left (SF.rf hg)) c 5 (show c < 10 by omega) (by decide)) zk_32_0 (zc_32_0 E _) rfl rfl gw_323 (by decide) rfl rfl (Nat.le_of_ble_eq_true rfl) dX11_promote_28 (zk_i ?_)
    refine z_isub X (pc := 31) dX11_promote_31 ?_
    refine z_istore_n X (pc := 32) (lv1 := [(3, .int ((20 * ((g 4 c) + 1)) - (g 5 c))), (2, .int (g 4 c)), (0, .ref (za E 32 0)), (1, .int (nI c))]) dX11_promote_32 rfl (by decide) rfl ?_
    have ht := (hI.ch c hc).2.2.2.2.1
    have hmk := (hI.ch c hc).2.2.2.2.2.1
    have hle := hI.le
    have hla := lack_iff ht hmk (by omega)
    refine z_aload_n X (pc := 33) 2 dX11_promote_33 rfl rfl ?_
    refine z_iload_n X (pc := 34) 1 dX11_promote_34 rfl rfl ?_
    refine z_iconst X (pc := 35) (v := 2) dX11_promote_35 (by decide) ?_
    refine z_icmp_ne X (pc := 36) (tgt := 43) dX11_promote_36 (by decide) (fun c36 => ?_) (fun c36 => ?_)
    · refine z_iconst X (pc := 43) (v := 0) dX11_promote_43 (by decide) ?_
      refine z_bipush X (pc := 44) (v := 13) dX11_promote_44 (by decide) ?_
      refine z_aload_n X (pc := 46) 2 dX11_promote_46 rfl rfl ?_
      refine z_iload_n X (pc := 47) 3 dX11_promote_47 rfl rfl ?_
      refine z_iconst X (pc := 48) (v := 5) dX11_promote_48 (by decide) ?_
      refine z_callV X (pc := 49) (rest := [.int 13, .int 0, .ref (za E 32 0)]) kv_X11_ofChair (c_X11_ofChair E M g (And.left (SF.rf hg)) c 5 (show c < 10 by omega) (by decide)) zk_32_0 (zc_32_0 E _) rfl rfl gw_323 (by decide) rfl rfl (Nat.le_of_ble_eq_true rfl) dX11_promote_49 (zk_i ?_)
      refine z_callV X (pc := 52) (rest := []) kv_X11_refuse (c_X11_refuse_no E M 13 (g 5 c)) zk_32_0 (zc_32_0 E _) rfl rfl gw_243 (by decide) rfl rfl (Nat.le_of_ble_eq_true rfl) dX11_promote_52 (zk_i ?_)
      refine z_if_ne X (pc := 55) (tgt := 77) dX11_promote_55 (by decide) (fun c55 => ?_) (fun c55 => ?_)
      · exact absurd c55 (by decide)
      · refine z_aload_n X (pc := 58) 2 dX11_promote_58 rfl rfl ?_
        refine z_iload_n X (pc := 59) 0 dX11_promote_59 rfl rfl ?_
        refine z_if_le X (pc := 60) (tgt := 67) dX11_promote_60 (by decide) (fun c60 => ?_) (fun c60 => ?_)
        · refine z_iconst X (pc := 67) (v := 0) dX11_promote_67 (by decide) ?_
          refine z_bipush X (pc := 68) (v := 14) dX11_promote_68 (by decide) ?_
          refine z_iload_n X (pc := 70) 0 dX11_promote_70 rfl rfl ?_
          refine z_callV X (pc := 71) (rest := []) kv_X11_refuse (c_X11_refuse_no E M 14 ((20 * ((g 4 c) + 1)) - (g 5 c))) zk_32_0 (zc_32_0 E _) rfl rfl gw_243 (by decide) rfl rfl (Nat.le_of_ble_eq_true rfl) dX11_promote_71 (zk_i ?_)
          refine z_if_eq X (pc := 74) (tgt := 81) dX11_promote_74 (by decide) (fun c74 => ?_) (fun c74 => ?_)
          · refine z_aload_n X (pc := 81) 2 dX11_promote_81 rfl rfl ?_
            refine z_callV X (pc := 82) (rest := []) kv_X11_change (c_X11_change E M g (And.left (SF.rf hg)) hs hH tx htx) zk_32_0 (zc_32_0 E _) rfl rfl gw_248 (by decide) rfl rfl (Nat.le_of_ble_eq_true rfl) dX11_promote_82 (zk_rv (fun M_1 hC_2 => ?_))
            refine z_aload_n X (pc := 85) 2 dX11_promote_85 rfl rfl ?_
            refine z_iload_n X (pc := 86) 3 dX11_promote_86 rfl rfl ?_
            refine z_iconst X (pc := 87) (v := 4) dX11_promote_87 (by decide) ?_
            refine z_iload_n X (pc := 88) 1 dX11_promote_88 rfl rfl ?_
            refine z_iconst X (pc := 89) (v := 1) dX11_promote_89 (by decide) ?_
            refine z_iadd X (pc := 90) dX11_promote_90 ?_
            refine z_callV X (pc := 91) (rest := []) kv_X11_putChair (c_X11_putChair E M_1 g (And.left (SF.rf (hC_2.2.g20 hg))) c 4 ((g 4 c) + 1) (show c < 10 by omega) (by decide)) zk_32_0 (zc_32_0 E _) rfl rfl gw_261 (by decide) rfl rfl (Nat.le_of_ble_eq_true rfl) dX11_promote_91 (zk_rv (fun M_3 hS_4 => ?_))
            refine z_iload_n X (pc := 94) 1 dX11_promote_94 rfl rfl ?_
            refine z_iconst X (pc := 95) (v := 1) dX11_promote_95 (by decide) ?_
            refine z_iadd X (pc := 96) dX11_promote_96 ?_
            exact z_iret X Y dX11_promote_97 ⟨_, rfl, MX.done hR hC_2 (And.left ((SF.rf (hC_2.2.g20 hg)).trans hS_4)) (SF.fq ((SF.rf (hC_2.2.g20 hg)).trans hS_4)) (tier_pos ht) (by rw [oPromote_in hI hc]; have q36 : ¬ 2 ≤ g 4 c := tier_ne ht c36; have q60 : ¬ g 5 c < 20 * (g 4 c + 1) := fun z => absurd (hla.mpr z) (by first | exact i32_nlt.mpr c60 | exact c60); simp [oPromoteN, q36, q60])⟩
          · exact absurd (by decide) c74
        · refine z_iconst X (pc := 63) (v := 1) dX11_promote_63 (by decide) ?_
          refine z_goto X (pc := 64) (tgt := 68) dX11_promote_64 (by decide) ?_
          refine z_bipush X (pc := 68) (v := 14) dX11_promote_68 (by decide) ?_
          refine z_iload_n X (pc := 70) 0 dX11_promote_70 rfl rfl ?_
          refine z_callV X (pc := 71) (rest := []) kv_X11_refuse (c_X11_refuse E M 14 ((20 * ((g 4 c) + 1)) - (g 5 c))) zk_32_0 (zc_32_0 E _) rfl rfl gw_243 (by decide) rfl rfl (Nat.le_of_ble_eq_true rfl) dX11_promote_71 (zk_ri (fun v_7 M_5 h_6 => ?_))
          refine z_top (y := 1) h_6.1 ?_
          refine z_if_eq X (pc := 74) (tgt := 81) dX11_promote_74 (by decide) (fun c74 => ?_) (fun c74 => ?_)
          · exact absurd c74 (by decide)
          · refine z_sipush X (pc := 77) (v := (-1014)) dX11_promote_77 (by decide) ?_
            exact z_iret X Y dX11_promote_80 ⟨_, rfl, MX.refuse (rs := [(14, ((20 * ((g 4 c) + 1)) - (g 5 c)))]) hg hH h_6.2 (by decide) (by rw [oPromote_in hI hc]; have q36 : ¬ 2 ≤ g 4 c := tier_ne ht c36; have q60 := hla.mp (i32_nle.mp c60); simp [oPromoteN, q36, q60]) (Nat.le_of_ble_eq_true rfl)⟩
    · refine z_iconst X (pc := 39) (v := 1) dX11_promote_39 (by decide) ?_
      refine z_goto X (pc := 40) (tgt := 44) dX11_promote_40 (by decide) ?_
      refine z_bipush X (pc := 44) (v := 13) dX11_promote_44 (by decide) ?_
      refine z_aload_n X (pc := 46) 2 dX11_promote_46 rfl rfl ?_
      refine z_iload_n X (pc := 47) 3 dX11_promote_47 rfl rfl ?_
      refine z_iconst X (pc := 48) (v := 5) dX11_promote_48 (by decide) ?_
      refine z_callV X (pc := 49) (rest := [.int 13, .int 1, .ref (za E 32 0)]) kv_X11_ofChair (c_X11_ofChair E M g (And.left (SF.rf hg)) c 5 (show c < 10 by omega) (by decide)) zk_32_0 (zc_32_0 E _) rfl rfl gw_323 (by decide) rfl rfl (Nat.le_of_ble_eq_true rfl) dX11_promote_49 (zk_i ?_)
      refine z_callV X (pc := 52) (rest := []) kv_X11_refuse (c_X11_refuse E M 13 (g 5 c)) zk_32_0 (zc_32_0 E _) rfl rfl gw_243 (by decide) rfl rfl (Nat.le_of_ble_eq_true rfl) dX11_promote_52 (zk_ri (fun v_10 M_8 h_9 => ?_))
      refine z_top (y := 1) h_9.1 ?_
      refine z_if_ne X (pc := 55) (tgt := 77) dX11_promote_55 (by decide) (fun c55 => ?_) (fun c55 => ?_)
      · refine z_sipush X (pc := 77) (v := (-1014)) dX11_promote_77 (by decide) ?_
        exact z_iret X Y dX11_promote_80 ⟨_, rfl, MX.refuse (rs := [(13, (g 5 c))]) hg hH h_9.2 (by decide) (by rw [oPromote_in hI hc]; have q36 : 2 ≤ g 4 c := (by rw [c36]; decide); simp [oPromoteN, q36, c36]) (Nat.le_of_ble_eq_true rfl)⟩
      · exact absurd c55 (by decide)
  · refine z_sipush X (pc := 8) (v := (-1011)) dX11_promote_8 (by decide) ?_
    exact z_iret X Y dX11_promote_11 ⟨_, rfl, MX.same hg hH hR (by decide) (by simp [oPromote, hI.cNe, hI.mNe, gu_r, c5])⟩
