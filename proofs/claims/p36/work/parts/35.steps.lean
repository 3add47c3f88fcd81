/-! ===== what the class holds, and what the law asks of it ===== -/
/-- the league, its past, the reasons, the text, the line, the snapshot -/
abbrev LSt : Type := LG × List LG × Rs × List Int32 × List Int32 × Option LG
def SvX (M : Mem) : Option LG → Prop
  | none => M 17 0 2 = 0
  | some h => M 17 0 2 = 1 ∧ gX (M 10) = h
def XS (M : Mem) (S : LSt) : Prop := gX (M 9) = S.1 ∧ (∃ nx, HX0 M nx S.2.1) ∧ RSn M S.2.2.1 ∧ TS M 14 S.2.2.2.1 ∧ TS M 15 S.2.2.2.2.1 ∧ SvX M S.2.2.2.2.2
theorem TS.eqb {M M1 : Mem} {b : Nat} {t : List Int32} (h : TS M b t) (e : M1 b = M b) : TS M1 b t := by unfold TS at h ⊢; rw [e]; exact h
theorem SvX.eqb {M M1 : Mem} {sv : Option LG} (h : SvX M sv) (e : M1 10 = M 10) (e2 : M1 17 = M 17) : SvX M1 sv := by
  cases sv with
  | none => show M1 17 0 2 = 0; rw [e2]; exact h
  | some a => exact ⟨by rw [e2]; exact h.1, by rw [e]; exact h.2⟩
theorem XS.fw {M M1 : Mem} {S : LSt} (h : XS M S) (e : FW M M1) : XS M1 S := by
  obtain ⟨h1, ⟨nx, h2⟩, h3, h4, h5, h6⟩ := h
  exact ⟨by rw [e 9 (by decide) (by decide)]; exact h1, ⟨nx, h2.like (fun b hb => e b (by omega) (by omega))⟩, h3.like (e 16 (by decide) (by decide)), h4.eqb (e 14 (by decide) (by decide)), h5.eqb (e 15 (by decide) (by decide)), h6.eqb (e 10 (by decide) (by decide)) (e 17 (by decide) (by decide))⟩
def nS (S : LSt) (o : Chg) : LSt := (o.2.1, hsN S.1 S.2.1 o.1, o.2.2, S.2.2.2)
theorem px_step {M M1 : Mem} {S : LSt} {o : Chg} {v : Int32} (h : XS M S) (hp : PX M S.1 S.2.1 o v M1) : v = o.1 ∧ XS M1 (nS S o) := by
  obtain ⟨h1, ⟨nx, h2⟩, h3, h4, h5, h6⟩ := h
  obtain ⟨p1, p2, p3, p4, p5⟩ := hp
  subst p1
  exact ⟨rfl, ⟨p2, p4, p3, h4.eqb (p5 14 (by decide) (by decide) (by decide) (by decide) (by decide)), h5.eqb (p5 15 (by decide) (by decide) (by decide) (by decide) (by decide)), h6.eqb (p5 10 (by decide) (by decide) (by decide) (by decide) (by decide)) (p5 17 (by decide) (by decide) (by decide) (by decide) (by decide))⟩⟩
theorem hsN_mem {g h : LG} {hs : List LG} {v : Int32} (q : h ∈ hsN g hs v) : h = g ∨ h ∈ hs := by
  unfold hsN at q
  split at q
  · exact Or.inr q
  · exact List.mem_cons.mp (List.mem_of_mem_take q)
def sT (S : LSt) (t : List Int32) : LSt := (S.1, S.2.1, S.2.2.1, t, S.2.2.2.2)
def sL (S : LSt) (l : List Int32) : LSt := (S.1, S.2.1, S.2.2.1, S.2.2.2.1, l, S.2.2.2.2.2)
def sV (S : LSt) (v : Option LG) : LSt := (S.1, S.2.1, S.2.2.1, S.2.2.2.1, S.2.2.2.2.1, v)
def sU (S : LSt) (u : LG × List LG) : LSt := (u.1, u.2, S.2.2)
theorem xt_step {M M1 : Mem} {S : LSt} {t : List Int32} (h : XS M S) (hT : TS M1 14 t) (e : Off 14 M M1) : XS M1 (sT S t) := by
  obtain ⟨h1, ⟨nx, h2⟩, h3, h4, h5, h6⟩ := h
  exact ⟨by rw [e 9 (by decide)]; exact h1, ⟨nx, h2.like (fun b hb => e b (by omega))⟩, h3.like (e 16 (by decide)), hT, h5.eqb (e 15 (by decide)), h6.eqb (e 10 (by decide)) (e 17 (by decide))⟩
theorem xl_step {M M1 : Mem} {S : LSt} {t : List Int32} (h : XS M S) (hT : TS M1 15 t) (e : Off 15 M M1) : XS M1 (sL S t) := by
  obtain ⟨h1, ⟨nx, h2⟩, h3, h4, h5, h6⟩ := h
  exact ⟨by rw [e 9 (by decide)]; exact h1, ⟨nx, h2.like (fun b hb => e b (by omega))⟩, h3.like (e 16 (by decide)), h4.eqb (e 14 (by decide)), hT, h6.eqb (e 10 (by decide)) (e 17 (by decide))⟩
theorem xu_step {M M1 : Mem} {S : LSt} {u : LG × List LG} (h : XS M S) (hg : gX (M1 9) = u.1) (hH : ∃ nx, HX0 M1 nx u.2) (e : ∀ b, 10 ≤ b → b ≠ 18 → M1 b = M b) : XS M1 (sU S u) := by
  obtain ⟨h1, -, h3, h4, h5, h6⟩ := h
  exact ⟨hg, hH, h3.like (e 16 (by decide) (by decide)), h4.eqb (e 14 (by decide) (by decide)), h5.eqb (e 15 (by decide) (by decide)), h6.eqb (e 10 (by decide) (by decide)) (e 17 (by decide) (by decide))⟩
theorem xv_step {M M1 : Mem} {S : LSt} (h : XS M S) (hg : gX (M1 10) = S.1) (h2 : M1 17 0 2 = 1) (e : ∀ b, b ≠ 10 → b ≠ 17 → M1 b = M b) : XS M1 (sV S (some S.1)) := by
  obtain ⟨h1, ⟨nx, hH⟩, h3, h4, h5, h6⟩ := h
  exact ⟨by rw [e 9 (by decide) (by decide)]; exact h1, ⟨nx, hH.like (fun b hb => e b (by omega) (by omega))⟩, h3.like (e 16 (by decide) (by decide)), h4.eqb (e 14 (by decide) (by decide)), h5.eqb (e 15 (by decide) (by decide)), ⟨h2, hg⟩⟩
theorem xr_step {M M1 : Mem} {S : LSt} {g : LG} (h : XS M S) (hg : gX (M1 9) = g) (h2 : M1 18 0 2 = 0) (h1 : M1 18 0 1 = M 18 0 1) (e : ∀ b, b ≠ 9 → b ≠ 18 → M1 b = M b) : XS M1 (sU S (g, [])) := by
  obtain ⟨nx, hH⟩ := h.2.1
  exact xu_step h hg ⟨nx, by rw [h1]; exact hH.1, hH.2.1, h2, Nat.zero_le _, fun i hi => absurd hi (Nat.not_lt_zero i)⟩ (fun b h9 h18 => e b (by omega) h18)
noncomputable def rS (S : LSt) : LSt := ((oRun S.1 S.2.2.1 S.2.2.2.1).2.1, hsN S.1 S.2.1 (oRun S.1 S.2.2.1 S.2.2.2.1).1, (oRun S.1 S.2.2.1 S.2.2.2.1).2.2, [], S.2.2.2.2)
theorem xrun_step {M M1 : Mem} {S : LSt} {v : Int32} (h : XS M S) (hp : RunP M S.1 S.2.1 S.2.2.1 S.2.2.2.1 v M1) : v = (oRun S.1 S.2.2.1 S.2.2.2.1).1 ∧ XS M1 (rS S) := by
  obtain ⟨h1, ⟨nx, h2⟩, h3, h4, h5, h6⟩ := h
  obtain ⟨p1, p2, p3, p4, p5, p6⟩ := hp
  subst p1
  exact ⟨rfl, ⟨p2, p4, p3, p5, h5.eqb (p6 15 (by decide) (by decide) (by decide) (by decide) (by decide) (by decide) (by decide)), h6.eqb (p6 10 (by decide) (by decide) (by decide) (by decide) (by decide) (by decide) (by decide)) (p6 17 (by decide) (by decide) (by decide) (by decide) (by decide) (by decide) (by decide))⟩⟩
/-- what holds of a state's league, its past and its snapshot -/
def LQ (S : LSt) (n : Nat) : Prop := ∀ h, (h = S.1 ∨ h ∈ S.2.1 ∨ S.2.2.2.2.2 = some h) → ∃ a b, Inv h a b n ∧ SF h a b
theorem LQ.now {S : LSt} {n : Nat} (h : LQ S n) : ∃ a b, Inv S.1 a b n ∧ SF S.1 a b := h S.1 (Or.inl rfl)
theorem LQ.up {S : LSt} {n n' : Nat} (h : LQ S n) (hn : n ≤ n') (hn2 : n' ≤ 100000) : LQ S n' := fun x hx => by
  obtain ⟨a, b, h1, h2⟩ := h x hx
  exact ⟨a, b, h1.succ hn hn2, h2⟩
theorem LQ.chg {S : LSt} {n : Nat} {o : Chg} (h : LQ S n) (hk : Kq n S.1 o) (hn : n < 100000) : LQ (nS S o) (n + 1) := fun x hx => by
  rcases hx with e | e | e
  · rw [e]; exact hk.1
  · rcases hsN_mem e with e | e
    · exact h.up (by omega) (by omega) x (Or.inl e)
    · exact h.up (by omega) (by omega) x (Or.inr (Or.inl e))
  · exact h.up (by omega) (by omega) x (Or.inr (Or.inr e))
/-- S1 has the league, the text and the snapshot of S, and no other past -/
def Sm (S S1 : LSt) : Prop := S1.1 = S.1 ∧ (∀ h, h ∈ S1.2.1 → h ∈ S.2.1) ∧ S1.2.2.2.1 = S.2.2.2.1 ∧ S1.2.2.2.2.2 = S.2.2.2.2.2
theorem Sm.rf (S : LSt) : Sm S S := ⟨rfl, fun _ h => h, rfl, rfl⟩
theorem Sm.tr {S S1 S2 : LSt} (h : Sm S S1) (h2 : Sm S1 S2) : Sm S S2 := ⟨h2.1.trans h.1, fun x hx => h.2.1 x (h2.2.1 x hx), h2.2.2.1.trans h.2.2.1, h2.2.2.2.trans h.2.2.2⟩
theorem LQ.sm {S S1 : LSt} {n : Nat} (h : LQ S n) (e : Sm S S1) : LQ S1 n := fun x hx => h x (by
  rcases hx with q | q | q
  · exact Or.inl (q.trans e.1)
  · exact Or.inr (Or.inl (e.2.1 x q))
  · exact Or.inr (Or.inr (by rw [← e.2.2.2]; exact q)))
theorem Sm.line (S : LSt) (l : List Int32) : Sm S (sL S l) := ⟨rfl, fun _ h => h, rfl, rfl⟩
/-- a change and its undoing -/
theorem aUndo_nS {S : LSt} {o : Chg} (hv : ¬ o.1 < 0) : aUndo (nS S o).1 (nS S o).2.1 = (nI (S.2.1.take 7).length, S.1, S.2.1.take 7) := by
  show aUndo o.2.1 (hsN S.1 S.2.1 o.1) = _
  unfold hsN
  rw [if_neg hv]
  rfl
theorem Sm.undo {S : LSt} {o : Chg} : Sm S (sU (nS S o) (S.1, S.2.1.take 7)) := ⟨rfl, fun _ h => List.mem_of_mem_take h, rfl, rfl⟩
/-! calls at a state -/
theorem Mt.post {E : ZE} {y : MethodName} {cc : ByteArray} {nL : Nat} {ret : Option FieldType} {rm : Room} {args : List Value} {M : Mem} {P P' : Option Value → Mem → Prop} (h : Mt E y cc nL ret rm args M P) (hp : ∀ r M1, P r M1 → P' r M1) : Mt E y cc nL ret rm args M P' :=
  fun p e h1 h2 h3 s m args' below hf hap hP hK => by
    obtain ⟨n, o, a1, a2, a3, ⟨⟨r, M', e1, e2, e3⟩, e4⟩, L⟩ := h p e h1 h2 h3 s m args' below hf hap hP hK
    exact ⟨n, o, a1, a2, a3, ⟨⟨r, M', e1, hp r M' e2, e3⟩, e4⟩, L⟩
theorem q_ch {E : ZE} {M : Mem} {S : LSt} {nc nm n : Nat} (hX : XS M S) (hI : Inv S.1 nc nm n) {c : Nat} (hc : c < nc) {q v : Int32} (hv : aChairN S.1 c q = v) : Mt E yX10_chairOf cX10_chairOf 4 (some .int) rm_X10_chairOf [.ref (za E 17 0), .int (nI c), .int q] M (PI v M) := by
  subst hv
  rw [← aChairOf_in hI hc]
  exact c_X10_chairOf E M S.1 hX.1 nc nm n hI (nI c) q
theorem q_mu {E : ZE} {M : Mem} {S : LSt} {nc nm n : Nat} (hX : XS M S) (hI : Inv S.1 nc nm n) {m : Nat} (hm : m < nm) {q v : Int32} (hv : aMusicianN S.1 m q = v) : Mt E yX10_musicianOf cX10_musicianOf 4 (some .int) rm_X10_musicianOf [.ref (za E 17 0), .int (nI m), .int q] M (PI v M) := by
  subst hv
  rw [← aMusicianOf_in hI hm]
  exact c_X10_musicianOf E M S.1 hX.1 nc nm n hI (nI m) q
theorem q_fit {E : ZE} {M : Mem} {S : LSt} {nc nm n : Nat} (hX : XS M S) (hI : Inv S.1 nc nm n) {c m : Nat} (hc : c < nc) (hm : m < nm) : Mt E yX10_fit cX10_fit 3 (some .int) rm_X10_fit [.ref (za E 17 0), .int (nI c), .int (nI m)] M (PI (fit S.1 c m) M) := by
  rw [← aFit_in hI hc hm]
  exact c_X10_fit E M S.1 hX.1 nc nm n hI (nI c) (nI m)
theorem q_ac {E : ZE} {M : Mem} {S : LSt} {nc nm n : Nat} (hX : XS M S) (hI : Inv S.1 nc nm n) {q v : Int32} (hv : ∀ t k, aAccount S.1 t k q = v) : Mt E yX10_account cX10_account 3 (some .int) rm_X10_account [.ref (za E 17 0), .int q] M (PI v M) := by
  obtain ⟨nx, hH⟩ := hX.2.1
  rw [← hv S.2.2.2.1 S.2.1.length]
  exact c_X10_account E M S.1 hX.1 nc nm n hI S.2.2.2.1 hX.2.2.2.1 _ hH.2.2.1 q
theorem q_rest {E : ZE} {M : Mem} {S : LSt} {nc nm n : Nat} (hX : XS M S) (hI : Inv S.1 nc nm n) : Mt E yX10_restless cX10_restless 4 (some .int) rm_X10_restless [.ref (za E 17 0)] M (PI (nI (restN S.1 nm nc)) M) := c_X10_restless E M S.1 hX.1 nc nm n hI
theorem q_lasts {E : ZE} {M : Mem} {S : LSt} {nc nm n : Nat} (hX : XS M S) (hI : Inv S.1 nc nm n) {w : Int32} (hw : inB w 1 4 = true) : Mt E yX10_lasts cX10_lasts 6 (some .int) rm_X10_lasts [.ref (za E 17 0), .int w] M (PI (lastsN S.1 w nc) M) := by
  have e : aLasts S.1 w = lastsN S.1 w nc := by unfold aLasts; rw [hw, if_neg (by decide), hI.cNe]
  rw [← e]
  exact c_X10_lasts E M S.1 hX.1 nc nm n hI w
theorem q_hall {E : ZE} {M : Mem} {S : LSt} {nc nm n : Nat} (hX : XS M S) (hI : Inv S.1 nc nm n) {t : Int32} (ht : inB t 0 2 = true) : Mt E yX10_hall cX10_hall 4 (some .int) rm_X10_hall [.ref (za E 17 0), .int t] M (PI (hallN S.1 t nc) M) := by
  have e : aHall S.1 t = hallN S.1 t nc := by unfold aHall; rw [ht, if_neg (by decide), hI.cNe]
  rw [← e]
  exact c_X10_hall E M S.1 hX.1 nc nm n hI t
theorem q_ranked {E : ZE} {M : Mem} {S : LSt} {nc nm n : Nat} (hX : XS M S) (hI : Inv S.1 nc nm n) {x v : Int32} (hv : plc (cAhead S.1) nc x = v) : Mt E yX10_ranked cX10_ranked 5 (some .int) rm_X10_ranked [.ref (za E 17 0), .int x] M (PI v M) := by
  subst hv
  exact c_X10_ranked E M S.1 hX.1 nc nm n hI x
theorem q_richest {E : ZE} {M : Mem} {S : LSt} {nc nm n : Nat} (hX : XS M S) (hI : Inv S.1 nc nm n) {x v : Int32} (hv : plc (mAhead S.1) nm x = v) : Mt E yX10_richest cX10_richest 5 (some .int) rm_X10_richest [.ref (za E 17 0), .int x] M (PI v M) := by
  subst hv
  exact c_X10_richest E M S.1 hX.1 nc nm n hI x
theorem q_reason {E : ZE} {M : Mem} {S : LSt} (hX : XS M S) {x d v : Int32} (hv : aReason S.2.2.1 x d = v) : Mt E yX10_reason cX10_reason 3 (some .int) rm_X10_reason [.ref (za E 17 0), .int x, .int d] M (PI v M) := by
  subst hv
  exact c_X10_reason E M S.2.2.1 hX.2.2.1 x d
theorem q_would {E : ZE} {M : Mem} {S : LSt} {nc nm n : Nat} (hX : XS M S) (hI : Inv S.1 nc nm n) {c : Nat} (hc : c < nc) : Mt E yX10_would cX10_would 2 (some .int) rm_X10_would [.ref (za E 17 0), .int (nI c)] M (RI (fun v M1 => v = orN (matS S.1 nc nm c) ∧ FW M M1)) := by
  rw [← aWould_in hI hc]
  exact c_X10_would E M S.1 hX.1 nc nm n hI (nI c)
theorem q_wouldA {E : ZE} {M : Mem} {S : LSt} {nc nm n : Nat} (hX : XS M S) (hI : Inv S.1 nc nm n) {c : Nat} (hc : c < nc) : Mt E yX10_wouldAgain cX10_wouldAgain 2 (some .int) rm_X10_wouldAgain [.ref (za E 17 0), .int (nI c)] M (RI (fun v M1 => v = orN (matS S.1 nc nm c) ∧ FW M M1)) := by
  rw [← aWould_in hI hc]
  exact c_X10_wouldAgain E M S.1 hX.1 nc nm n hI (nI c)
theorem q_bal {E : ZE} {M : Mem} {S : LSt} {nc nm n : Nat} (hX : XS M S) (hI : Inv S.1 nc nm n) : Mt E yX10_isBalanced cX10_isBalanced 1 (some .int) rm_X10_isBalanced [.ref (za E 17 0)] M (RI (fun v M1 => v = 1 ∧ FW M M1)) := c_X10_isBalanced E M S.1 hX.1 nc nm n hI
theorem q_tell {E : ZE} {M : Mem} {S : LSt} {nc nm n : Nat} (hX : XS M S) (hI : Inv S.1 nc nm n) (x : Int32) : Mt E yX10_tell cX10_tell 4 (some .int) rm_X10_tell [.ref (za E 17 0), .int x] M (RI (fun v M1 => v = (aTell S.1 S.2.2.2.2.1 x).1 ∧ TS M1 15 (aTell S.1 S.2.2.2.2.1 x).2 ∧ Off 15 M M1)) := c_X10_tell E M S.1 hX.1 nc nm n hI S.2.2.2.2.1 hX.2.2.2.2.1 x
theorem q_mean {E : ZE} {M : Mem} {S : LSt} {nc nm n : Nat} (hX : XS M S) (hI : Inv S.1 nc nm n) : Mt E yX10_meanFit cX10_meanFit 4 (some .double) rm_X10_meanFit [.ref (za E 17 0)] M (PD (meanV (fitSum S.1 nc) (cntB (taken S.1) nc)) M) := c_X10_meanFit E M S.1 hX.1 nc nm n hI
theorem q_share {E : ZE} {M : Mem} {S : LSt} {nc nm n : Nat} (hX : XS M S) (hI : Inv S.1 nc nm n) : Mt E yX10_fallenShare cX10_fallenShare 2 (some .float) rm_X10_fallenShare [.ref (za E 17 0)] M (PF (shareV (cntB (fell S.1) nc) nc) M) := c_X10_fallenShare E M S.1 hX.1 nc nm n hI
theorem q_append {E : ZE} {M : Mem} {S : LSt} (hX : XS M S) (x : Int32) : Mt E yX10_append cX10_append 2 (some .int) rm_X10_append [.ref (za E 17 0), .int x] M (RI (fun v M1 => v = (aAppend S.2.2.2.1 x).1 ∧ TS M1 14 (aAppend S.2.2.2.1 x).2 ∧ Off 14 M M1)) := c_X10_append E M S.1 hX.1 S.2.2.2.1 hX.2.2.2.1 x
theorem q_chair {E : ZE} {M : Mem} {S : LSt} {nc nm n : Nat} (hX : XS M S) (hI : Inv S.1 nc nm n) (x y : Int32) : Mt E yX10_chair cX10_chair 3 (some .int) rm_X10_chair [.ref (za E 17 0), .int x, .int y] M (RI (fun v M1 => v = (oBringC S.1 S.2.2.1 x y).1 ∧ XS M1 (nS S (oBringC S.1 S.2.2.1 x y)))) := by
  obtain ⟨nx, hH⟩ := hX.2.1
  exact (c_X10_chair E M S.1 hX.1 nc nm n hI S.2.2.1 hX.2.2.1 S.2.1 nx hH x y).post (fun r M1 h => by obtain ⟨v, e, p⟩ := h; exact ⟨v, e, px_step hX p⟩)
theorem q_musician {E : ZE} {M : Mem} {S : LSt} {nc nm n : Nat} (hX : XS M S) (hI : Inv S.1 nc nm n) (x y z : Int32) : Mt E yX10_musician cX10_musician 4 (some .int) rm_X10_musician [.ref (za E 17 0), .int x, .int y, .int z] M (RI (fun v M1 => v = (oBringM S.1 S.2.2.1 x y z).1 ∧ XS M1 (nS S (oBringM S.1 S.2.2.1 x y z)))) := by
  obtain ⟨nx, hH⟩ := hX.2.1
  exact (c_X10_musician E M S.1 hX.1 nc nm n hI S.2.2.1 hX.2.2.1 S.2.1 nx hH x y z).post (fun r M1 h => by obtain ⟨v, e, p⟩ := h; exact ⟨v, e, px_step hX p⟩)
theorem q_seat {E : ZE} {M : Mem} {S : LSt} {nc nm n : Nat} (hX : XS M S) (hI : Inv S.1 nc nm n) (x y : Int32) : Mt E yX10_seat cX10_seat 3 (some .int) rm_X10_seat [.ref (za E 17 0), .int x, .int y] M (RI (fun v M1 => v = (oSeat S.1 S.2.2.1 x y).1 ∧ XS M1 (nS S (oSeat S.1 S.2.2.1 x y)))) := by
  obtain ⟨nx, hH⟩ := hX.2.1
  exact (c_X10_seat E M S.1 hX.1 nc nm n hI S.2.2.1 hX.2.2.1 S.2.1 nx hH x y).post (fun r M1 h => by obtain ⟨v, e, p⟩ := h; exact ⟨v, e, px_step hX p⟩)
theorem q_rise {E : ZE} {M : Mem} {S : LSt} {nc nm n : Nat} (hX : XS M S) (hI : Inv S.1 nc nm n) (x : Int32) : Mt E yX10_rise cX10_rise 2 (some .int) rm_X10_rise [.ref (za E 17 0), .int x] M (RI (fun v M1 => v = (oRise S.1 S.2.2.1 x).1 ∧ XS M1 (nS S (oRise S.1 S.2.2.1 x)))) := by
  obtain ⟨nx, hH⟩ := hX.2.1
  exact (c_X10_rise E M S.1 hX.1 nc nm n hI S.2.2.1 hX.2.2.1 S.2.1 nx hH x).post (fun r M1 h => by obtain ⟨v, e, p⟩ := h; exact ⟨v, e, px_step hX p⟩)
theorem q_season {E : ZE} {M : Mem} {S : LSt} {nc nm n : Nat} (hX : XS M S) (hI : Inv S.1 nc nm n) : Mt E yX10_season cX10_season 1 (some .int) rm_X10_season [.ref (za E 17 0)] M (RI (fun v M1 => v = (oSeason S.1 S.2.2.1).1 ∧ XS M1 (nS S (oSeason S.1 S.2.2.1)))) := by
  obtain ⟨nx, hH⟩ := hX.2.1
  exact (c_X10_season E M S.1 hX.1 nc nm n hI S.2.2.1 hX.2.2.1 S.2.1 nx hH).post (fun r M1 h => by obtain ⟨v, e, p⟩ := h; exact ⟨v, e, px_step hX p⟩)
theorem q_bid {E : ZE} {M : Mem} {S : LSt} {nc nm n : Nat} (hX : XS M S) (hI : Inv S.1 nc nm n) (x y : Int32) : Mt E yX10_bid cX10_bid 3 (some .int) rm_X10_bid [.ref (za E 17 0), .int x, .int y] M (RI (fun v M1 => v = (oBid S.1 S.2.2.1 x y).1 ∧ XS M1 (nS S (oBid S.1 S.2.2.1 x y)))) := by
  obtain ⟨nx, hH⟩ := hX.2.1
  exact (c_X10_bid E M S.1 hX.1 nc nm n hI S.2.2.1 hX.2.2.1 S.2.1 nx hH x y).post (fun r M1 h => by obtain ⟨v, e, p⟩ := h; exact ⟨v, e, px_step hX p⟩)
theorem q_sell {E : ZE} {M : Mem} {S : LSt} {nc nm n : Nat} (hX : XS M S) (hI : Inv S.1 nc nm n) (x : Int32) : Mt E yX10_sell cX10_sell 2 (some .int) rm_X10_sell [.ref (za E 17 0), .int x] M (RI (fun v M1 => v = (oSell S.1 S.2.2.1 x).1 ∧ XS M1 (nS S (oSell S.1 S.2.2.1 x)))) := by
  obtain ⟨nx, hH⟩ := hX.2.1
  exact (c_X10_sell E M S.1 hX.1 nc nm n hI S.2.2.1 hX.2.2.1 S.2.1 nx hH x).post (fun r M1 h => by obtain ⟨v, e, p⟩ := h; exact ⟨v, e, px_step hX p⟩)
theorem q_concert {E : ZE} {M : Mem} {S : LSt} {nc nm n : Nat} (hX : XS M S) (hI : Inv S.1 nc nm n) (x : Int32) : Mt E yX10_concert cX10_concert 2 (some .int) rm_X10_concert [.ref (za E 17 0), .int x] M (RI (fun v M1 => v = (oConcert S.1 S.2.2.1 x).1 ∧ XS M1 (nS S (oConcert S.1 S.2.2.1 x)))) := by
  obtain ⟨nx, hH⟩ := hX.2.1
  exact (c_X10_concert E M S.1 hX.1 nc nm n hI S.2.2.1 hX.2.2.1 S.2.1 nx hH x).post (fun r M1 h => by obtain ⟨v, e, p⟩ := h; exact ⟨v, e, px_step hX p⟩)
theorem q_raise {E : ZE} {M : Mem} {S : LSt} {nc nm n : Nat} (hX : XS M S) (hI : Inv S.1 nc nm n) (x : Int32) : Mt E yX10_raise cX10_raise 2 (some .int) rm_X10_raise [.ref (za E 17 0), .int x] M (RI (fun v M1 => v = (oRaise S.1 S.2.2.1 x).1 ∧ XS M1 (nS S (oRaise S.1 S.2.2.1 x)))) := by
  obtain ⟨nx, hH⟩ := hX.2.1
  exact (c_X10_raise E M S.1 hX.1 nc nm n hI S.2.2.1 hX.2.2.1 S.2.1 nx hH x).post (fun r M1 h => by obtain ⟨v, e, p⟩ := h; exact ⟨v, e, px_step hX p⟩)
theorem q_promote {E : ZE} {M : Mem} {S : LSt} {nc nm n : Nat} (hX : XS M S) (hI : Inv S.1 nc nm n) (x : Int32) : Mt E yX10_promote cX10_promote 2 (some .int) rm_X10_promote [.ref (za E 17 0), .int x] M (RI (fun v M1 => v = (oPromote S.1 S.2.2.1 x).1 ∧ XS M1 (nS S (oPromote S.1 S.2.2.1 x)))) := by
  obtain ⟨nx, hH⟩ := hX.2.1
  exact (c_X10_promote E M S.1 hX.1 nc nm n hI S.2.2.1 hX.2.2.1 S.2.1 nx hH x).post (fun r M1 h => by obtain ⟨v, e, p⟩ := h; exact ⟨v, e, px_step hX p⟩)
theorem q_run {E : ZE} {M : Mem} {S : LSt} {nc nm n : Nat} (hX : XS M S) (hI : Inv S.1 nc nm n) (hn : n + 31 ≤ 100000) : Mt E yX10_run cX10_run 4 (some .int) rm_X10_run [.ref (za E 17 0)] M (RI (fun v M1 => v = (oRun S.1 S.2.2.1 S.2.2.2.1).1 ∧ XS M1 (rS S))) := by
  obtain ⟨nx, hH⟩ := hX.2.1
  exact (c_X10_run E M S.1 hX.1 nc nm n hI S.2.2.1 hX.2.2.1 S.2.1 nx hH S.2.2.2.1 hX.2.2.2.1 hn).post (fun r M1 h => by obtain ⟨v, e, p⟩ := h; exact ⟨v, e, xrun_step hX p⟩)
theorem q_undo {E : ZE} {M : Mem} {S : LSt} (hX : XS M S) : Mt E yX10_undo cX10_undo 1 (some .int) rm_X10_undo [.ref (za E 17 0)] M (RI (fun v M1 => v = (aUndo S.1 S.2.1).1 ∧ XS M1 (sU S (aUndo S.1 S.2.1).2))) := by
  obtain ⟨nx, hH⟩ := hX.2.1
  exact (c_X10_undo E M S.1 hX.1 S.2.1 nx hH).post (fun r M1 h => by obtain ⟨v, e, p1, p2, p3, p4⟩ := h; exact ⟨v, e, p1, xu_step hX p2 p3 p4⟩)
theorem q_save {E : ZE} {M : Mem} {S : LSt} (hX : XS M S) : Mt E yX10_save cX10_save 1 (some .int) rm_X10_save [.ref (za E 17 0)] M (RI (fun v M1 => v = S.1 14 7 ∧ XS M1 (sV S (some S.1)))) :=
  (c_X10_save E M S.1 hX.1).post (fun r M1 h => by obtain ⟨v, e, p1, p2, p3, p4⟩ := h; exact ⟨v, e, p1, xv_step hX p2 p3 p4⟩)
theorem q_restore {E : ZE} {M : Mem} {S : LSt} (hX : XS M S) {h : LG} (hs : S.2.2.2.2.2 = some h) : Mt E yX10_restore cX10_restore 1 (some .int) rm_X10_restore [.ref (za E 17 0)] M (RI (fun v M1 => v = h 14 7 ∧ XS M1 (sU S (h, [])))) := by
  have h6 := hX.2.2.2.2.2
  rw [hs] at h6
  exact (c_X10_restore E M h h6.2 h6.1).post (fun r M1 z => by obtain ⟨v, e, p1, p2, p3, p4, p5⟩ := z; exact ⟨v, e, p1, xr_step hX p2 p3 p4 p5⟩)
theorem q_restore0 {E : ZE} {M : Mem} {S : LSt} (hX : XS M S) (hs : S.2.2.2.2.2 = none) : Mt E yX10_restore cX10_restore 1 (some .int) rm_X10_restore [.ref (za E 17 0)] M (PI (-1015) M) := by
  have h6 := hX.2.2.2.2.2
  rw [hs] at h6
  exact c_X10_restore_no E M h6
theorem ac_0 {g : LG} {nc nm n : Nat} (h : Inv g nc nm n) : ∀ t k, aAccount g t k 0 = nI nc := fun _ _ => by show nI (cN g) = _; rw [h.cNe]
theorem ac_1 {g : LG} {nc nm n : Nat} (h : Inv g nc nm n) : ∀ t k, aAccount g t k 1 = nI nm := fun _ _ => by show nI (mN g) = _; rw [h.mNe]
theorem ac_2 {g : LG} {nc nm n : Nat} (h : Inv g nc nm n) : ∀ t k, aAccount g t k 2 = nI (cntB (sits g) nm) := fun _ _ => by show nI (cntB (sits g) (mN g)) = _; rw [h.mNe]
theorem ac_3 {g : LG} {nc nm n : Nat} (h : Inv g nc nm n) : ∀ t k, aAccount g t k 3 = nI (cntB (fell g) nc) := fun _ _ => by show nI (cntB (fell g) (cN g)) = _; rw [h.cNe]
theorem ac_4 {g : LG} {nc nm n : Nat} (h : Inv g nc nm n) : ∀ t k, aAccount g t k 4 = sumI (g 10) nm := fun _ _ => by show sumI (g 10) (mN g) = _; rw [h.mNe]
theorem ac_5 {g : LG} : ∀ t k, aAccount g t k 5 = g 14 0 := fun _ _ => rfl
theorem ac_6 {g : LG} : ∀ t k, aAccount g t k 6 = g 14 1 := fun _ _ => rfl
theorem ac_7 {g : LG} : ∀ t k, aAccount g t k 7 = g 14 2 := fun _ _ => rfl
theorem ac_8 {g : LG} : ∀ t k, aAccount g t k 8 = g 14 3 := fun _ _ => rfl
theorem mean_cmp : ∀ f, f < 131 → ∀ s, s < 11 → Op.cmpValue (FP.dcmp (meanV (nI f) s) (meanV (nI f) s)) .l = 0 := by decide +kernel
theorem share_cmp : ∀ f, f < 11 → ∀ s, s < 11 → Op.cmpValue (FP.fcmp (shareV f s) (shareV f s)) .l = 0 := by decide +kernel
