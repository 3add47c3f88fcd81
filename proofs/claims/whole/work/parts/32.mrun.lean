def tX (b r k : Nat) : Prop := b = 20 ∨ b = 22 ∨ (24 ≤ b ∧ b ≤ 31) ∨ (b = 32 ∧ ((1 ≤ r ∧ r ≤ 3) ∨ (r = 0 ∧ (k = 8 ∨ k = 9 ∨ k = 11 ∨ 15 ≤ k))))
theorem HM.u0 {M : Mem} {hs : List LG} {k : Nat} {v : Int32} (h : HM M hs) (hk : k ≠ 8) : HM (up3 M 32 0 k v) hs := h.fq (P := fun b r k' => b = 32 ∧ r = 0 ∧ k' = k) (fun b r k' q => up3_ne q) (fun b r k' z q => by unfold tH at z; omega)
theorem RSm.u0 {M : Mem} {rs : Rs} {k : Nat} {v : Int32} (h : RSm M rs) (hk : k ≠ 9) : RSm (up3 M 32 0 k v) rs := h.fq (P := fun b r k' => b = 32 ∧ r = 0 ∧ k' = k) (fun b r k' q => up3_ne q) (fun b r k' z q => by unfold tR at z; omega)
def RunM (M : Mem) (g : LG) (hs : List LG) (rs : Rs) (t : List Int32) (v : Int32) (M1 : Mem) : Prop := v = (oRun g rs t).1 ∧ gF (M1 20 0) = (oRun g rs t).2.1 ∧ RSm M1 (oRun g rs t).2.2 ∧ HM M1 (hsN g hs v) ∧ TM M1 [] ∧ M1 32 0 11 = 0 ∧ Fq tX M M1
def RuG (t : List Int32) (hs : List LG) (g : LG) (rs : Rs) (n i : Nat) (M M3 : Mem) (g1 : LG) (rs1 : Rs) (p : Nat) : Prop := gF (M3 20 0) = g1 ∧ RSm M3 rs1 ∧ HM M3 hs ∧ (∃ nc nm, Inv g1 nc nm (n + i)) ∧ gF (M3 22 0) = g ∧ M3 32 0 11 = 1 ∧ PS M3 t p false ∧ (i < (pTxt t 30 0).2.length → p ≤ t.length ∧ (pTxt t (30 - i) p).1 = -1 ∧ (pTxt t 30 0).2.drop i = (pTxt t (30 - i) p).2) ∧ runL g 0 g rs (pTxt t 30 0).2 = runL g i g1 rs1 ((pTxt t 30 0).2.drop i) ∧ Fq tX M M3 ∧ (pTxt t 30 0).1 = -1
def RuB (t : List Int32) (hs : List LG) (g : LG) (rs : Rs) (M M3 : Mem) : Prop := gF (M3 22 0) = g ∧ HM M3 hs ∧ RSm M3 (oRun g rs t).2.2 ∧ (oRun g rs t).1 = -1014 ∧ (oRun g rs t).2.1 = g ∧ Fq tX M M3
theorem pTxt_len {t : List Int32} : ∀ n p, (pTxt t n p).2.length ≤ n := by
  intro n
  induction n with
  | zero => exact fun p => Nat.le_refl 0
  | succ n ih =>
    intro p
    unfold pTxt
    split
    · exact Nat.zero_le _
    · split
      · show 1 ≤ n + 1; omega
      · split
        · have := ih ((pOrd t p).2.1 + 1)
          show (pTxt t n ((pOrd t p).2.1 + 1)).2.length + 1 ≤ n + 1
          omega
        · exact Nat.zero_le _
theorem RuG.n30 {t : List Int32} {hs : List LG} {g g1 : LG} {rs rs1 : Rs} {n i p : Nat} {M M3 : Mem} (_h : RuG t hs g rs n i M M3 g1 rs1 p) : (pTxt t 30 0).2.length ≤ 30 := pTxt_len 30 0
theorem RuG.hist {t : List Int32} {hs : List LG} {g g1 : LG} {rs rs1 : Rs} {n i p : Nat} {M M3 : Mem} (h : RuG t hs g rs n i M M3 g1 rs1 p) : HM M3 hs := h.2.2.1
theorem RuG.inv {t : List Int32} {hs : List LG} {g g1 : LG} {rs rs1 : Rs} {n i p : Nat} {M M3 : Mem} (h : RuG t hs g rs n i M M3 g1 rs1 p) : ∃ nc nm, Inv g1 nc nm (n + i) := h.2.2.2.1
theorem RuG.ps {t : List Int32} {hs : List LG} {g g1 : LG} {rs rs1 : Rs} {n i p : Nat} {M M3 : Mem} (h : RuG t hs g rs n i M M3 g1 rs1 p) : PS M3 t p false := h.2.2.2.2.2.2.1
theorem RuG.tx {t : List Int32} {hs : List LG} {g g1 : LG} {rs rs1 : Rs} {n i p : Nat} {M M3 : Mem} (h : RuG t hs g rs n i M M3 g1 rs1 p) (hi : i < (pTxt t 30 0).2.length) : p ≤ t.length ∧ (pTxt t (30 - i) p).1 = -1 ∧ (pTxt t 30 0).2.drop i = (pTxt t (30 - i) p).2 := h.2.2.2.2.2.2.2.1 hi
theorem RuG.pb {t : List Int32} {hs : List LG} {g g1 : LG} {rs rs1 : Rs} {n i p : Nat} {M M3 : Mem} (h : RuG t hs g rs n i M M3 g1 rs1 p) (hl : t.length ≤ 60) (hi : i < (pTxt t 30 0).2.length) : p ≤ 60 ∧ i < 30 := by
  have h1 := (h.tx hi).1
  have h2 := h.n30
  exact ⟨by omega, by omega⟩
theorem RuG.ord {t : List Int32} {hs : List LG} {g g1 : LG} {rs rs1 : Rs} {n i p : Nat} {M M3 : Mem} (h : RuG t hs g rs n i M M3 g1 rs1 p) (hi : i < (pTxt t 30 0).2.length) : (pOrd t p).1 = true ∧ (pOrd t p).2.2 = (pTxt t 30 0).2.getD i (0, 0, 0, 0) ∧ (i + 1 < (pTxt t 30 0).2.length → (pOrd t p).2.1 + 1 ≤ t.length ∧ (pTxt t (30 - (i + 1)) ((pOrd t p).2.1 + 1)).1 = -1 ∧ (pTxt t 30 0).2.drop (i + 1) = (pTxt t (30 - (i + 1)) ((pOrd t p).2.1 + 1)).2) := by
  obtain ⟨h1, h2, h3⟩ := h.tx hi
  have hn := h.n30
  have hi30 : i < 30 := by omega
  have hd := drop_at hi
  have hq : ∀ q : Nat, q ≤ t.length → ¬ nI q = -1 := fun q hq => nI_ne_m1 (by
    have := h.ps.1.2.1
    omega)
  have hle := (pOrd_le h1).1
  cases ho : (pOrd t p).1 with
  | false =>
    rw [pT_bad hi30 ho] at h2
    exact absurd h2 (hq _ hle)
  | true =>
    by_cases he : (pOrd t p).2.1 = t.length
    · have hg := pT_end hi30 ho he
      rw [hg] at h3
      rw [hd] at h3
      have e1 := (List.cons.inj h3).1
      have e2 := (List.cons.inj h3).2
      have e3 : (pTxt t 30 0).2.length - (i + 1) = 0 := by rw [← List.length_drop, e2]; rfl
      exact ⟨rfl, e1.symm, fun z => absurd z (by omega)⟩
    · by_cases hc : chr t (pOrd t p).2.1 = 59
      · have hg := pT_go hi30 ho he hc
        rw [hg] at h2 h3
        rw [hd] at h3
        have e1 := (List.cons.inj h3).1
        have e2 := (List.cons.inj h3).2
        exact ⟨rfl, e1.symm, fun _ => ⟨by omega, h2, e2⟩⟩
      · rw [pT_sep hi30 ho he hc] at h2
        exact absurd h2 (hq _ hle)
theorem pOrd_let {t : List Int32} {p : Nat} (h : (pOrd t p).1 = true) : LetO (pOrd t p).2.2.1 := by
  by_cases hj : ∃ j, j < 10 ∧ hmL.getD j 0 = chr t p
  · obtain ⟨j, hj, e⟩ := hj
    rcases hm_cases hj e with q | q | q | q | q | q | q | q | q | q
    · rw [(ord_h q).2.2 h]; unfold LetO; simp
    · rw [(ord_m q).2.2 h]; unfold LetO; simp
    · rw [(ord_s q).2.2 h]; unfold LetO; simp
    · rw [(ord_o q (by decide)).2.2 h]; unfold LetO; simp
    · rw [(ord_a q).2.2 h]; unfold LetO; simp
    · rw [(ord_b q).2.2 h]; unfold LetO; simp
    · rw [(ord_o q (by decide)).2.2 h]; unfold LetO; simp
    · rw [(ord_o q (by decide)).2.2 h]; unfold LetO; simp
    · rw [(ord_o q (by decide)).2.2 h]; unfold LetO; simp
    · rw [(ord_o q (by decide)).2.2 h]; unfold LetO; simp
  · rw [(ord_bad (fun j hj' e => hj ⟨j, hj', e⟩)).2] at h; cases h
/-- behind the reading of an order -/
theorem RuG.car {t : List Int32} {hs : List LG} {g g1 : LG} {rs rs1 : Rs} {n i p : Nat} {M M3 M4 : Mem} {v : Int32} (h : RuG t hs g rs n i M M3 g1 rs1 p) (_hl : t.length ≤ 60) (hi : i < (pTxt t 30 0).2.length) (hr : PS M4 t (pOrd t p).2.1 (!(pOrd t p).1) ∧ ((pOrd t p).1 = true → OrdIs M4 (pOrd t p).2.2) ∧ Fq tP M3 M4) : gF (up3 M4 32 0 16 v 20 0) = g1 ∧ RSm (up3 M4 32 0 16 v) rs1 ∧ HM (up3 M4 32 0 16 v) hs ∧ up3 M4 32 0 16 v 32 0 11 = zb true ∧ OrdIs (up3 M4 32 0 16 v) (pOrd t p).2.2 ∧ LetO (pOrd t p).2.2.1 := by
  obtain ⟨ho, -, -⟩ := h.ord hi
  obtain ⟨h1, h2, h3, -, -, h6, -⟩ := h
  obtain ⟨-, r2, r3⟩ := hr
  obtain ⟨o1, o2, o3, o4⟩ := r2 ho
  refine ⟨by rw [up3_off (by omega), r3.row (fun k => by unfold tP; omega)]; exact h1, (h2.fq r3 (fun b r k z => by unfold tR at z; unfold tP; omega)).u0 (by decide), (h3.fq r3 (fun b r k z => by unfold tH at z; unfold tP; omega)).u0 (by decide), by rw [up3_ne (by omega), r3 32 0 11 (by unfold tP; omega)]; exact h6, ⟨by rw [up3_ne (by omega)]; exact o1, fun z => by rw [up3_ne (by omega)]; exact o2 z, fun z => by rw [up3_ne (by omega)]; exact o3 z, fun z => by rw [up3_ne (by omega)]; exact o4 z⟩, pOrd_let ho⟩
theorem Fq.step {M M3 M4 M6 : Mem} {v : Int32} (h : Fq tX M M3) (r3 : Fq tP M3 M4) (hc : Fq tC (up3 M4 32 0 16 v) M6) : Fq tX M M6 := fun b r k q => by
  unfold tX at q
  rw [hc b r k (by unfold tC tH tR tA; omega), up3_ne (by omega), r3 b r k (by unfold tP; omega), h b r k (by unfold tX; omega)]
theorem RuG.go {t : List Int32} {hs : List LG} {g g1 : LG} {rs rs1 : Rs} {n i p : Nat} {M M3 M4 M6 : Mem} {v x : Int32} (h : RuG t hs g rs n i M M3 g1 rs1 p) (hi : i < (pTxt t 30 0).2.length) (hn : n + 31 ≤ 100000) (_hl : t.length ≤ 60) (hr : PS M4 t (pOrd t p).2.1 (!(pOrd t p).1) ∧ ((pOrd t p).1 = true → OrdIs M4 (pOrd t p).2.2) ∧ Fq tP M3 M4) (hm : MX (up3 M4 32 0 16 x) g1 hs true (oOrder g1 rs1 (pOrd t p).2.2) v M6) (hv : ¬ v < 0) (hx : x = nI ((pOrd t p).2.1 + 1) := by rfl) : RuG t hs g rs n (i + 1) M M6 (oOrder g1 rs1 (pOrd t p).2.2).2.1 (oOrder g1 rs1 (pOrd t p).2.2).2.2 ((pOrd t p).2.1 + 1) := by
  obtain ⟨ho, eo, enx⟩ := h.ord hi
  have hn30 := h.n30
  obtain ⟨h1, h2, h3, ⟨nc, nm, h4⟩, h5, h6, h7, h8, h9, h10, h11⟩ := h
  obtain ⟨r1, r2, r3⟩ := hr
  obtain ⟨m1, m2, m3, m4, m5, m6⟩ := hm
  subst hx
  have k16 : M6 32 0 16 = nI ((pOrd t p).2.1 + 1) := by rw [m5 32 0 16 (by unfold tC tH tR tA; omega)]; exact up3_same
  have k21 : M6 32 0 21 = zb false := by
    rw [m5 32 0 21 (by unfold tC tH tR tA; omega), up3_ne (by omega), r1.2.2, ho]; rfl
  have kT : TM M6 t := (r1.1.u0 (by decide)).fq m5 (fun b r k z => by unfold tT at z; unfold tC tH tR tA; omega)
  refine ⟨m2, m3, m4, oOrder_kp h4 (show n + i < 100000 by omega), ?_, ?_, ⟨kT, k16, k21⟩, enx, ?_, Fq.step h10 r3 m5, h11⟩
  · rw [m5.row (fun k => by unfold tC tH tR tA; omega), up3_off (by omega), r3.row (fun k => by unfold tP; omega)]; exact h5
  · rw [m5 32 0 11 (by unfold tC tH tR tA; omega), up3_ne (by omega), r3 32 0 11 (by unfold tP; omega)]; exact h6
  · rw [h9, runL_go hi eo (by rw [← m1]; exact hv)]
theorem RuG.bad {t : List Int32} {hs : List LG} {g g1 : LG} {rs rs1 : Rs} {n i p : Nat} {M M3 M4 M6 M7 : Mem} {v x : Int32} (h : RuG t hs g rs n i M M3 g1 rs1 p) (_hl : t.length ≤ 60) (hi : i < (pTxt t 30 0).2.length) (hp1 : (pTxt t 30 0).1 = -1) (hr : PS M4 t (pOrd t p).2.1 (!(pOrd t p).1) ∧ ((pOrd t p).1 = true → OrdIs M4 (pOrd t p).2.2) ∧ Fq tP M3 M4) (hm : MX (up3 M4 32 0 16 x) g1 hs true (oOrder g1 rs1 (pOrd t p).2.2) v M6) (hv : v < 0)
    (ht : (v = -1014 ∧ RSm M7 ((15, nI i) :: (oOrder g1 rs1 (pOrd t p).2.2).2.2) ∧ Fq tR M6 M7) ∨ (v ≠ -1014 ∧ RSm M7 [(15, nI i)] ∧ Fq tR M6 M7)) : RuB t hs g rs M M7 := by
  obtain ⟨ho, eo, enx⟩ := h.ord hi
  obtain ⟨h1, h2, h3, ⟨nc, nm, h4⟩, h5, h6, h7, h8, h9, h10, h11⟩ := h
  obtain ⟨r1, r2, r3⟩ := hr
  obtain ⟨m1, m2, m3, m4, m5, m6⟩ := hm
  have hfr : Fq tR M6 M7 := by rcases ht with q | q <;> exact q.2.2
  have e : oRun g rs t = (-1014, g, ((15, nI i) :: if v = -1014 then (oOrder g1 rs1 (pOrd t p).2.2).2.2 else []).take 3) := by
    unfold oRun
    rw [if_pos hp1, h9, runL_bad hi eo (by rw [← m1]; exact hv), ← m1]
  unfold RuB
  rw [e]
  refine ⟨?_, m4.fq hfr (fun b r k z => by unfold tH at z; unfold tR; omega), ?_, rfl, rfl, (Fq.step h10 r3 m5).tr (hfr.mono (fun b r k z => by unfold tR at z; unfold tX; omega))⟩
  · rw [hfr.row (fun k => by unfold tR; omega), m5.row (fun k => by unfold tC tH tR tA; omega), up3_off (by omega), r3.row (fun k => by unfold tP; omega)]; exact h5
  · rcases ht with ⟨q1, q2, -⟩ | ⟨q1, q2, -⟩
    · rw [if_pos q1, List.take_of_length_le (by have := m6 q1; simp only [List.length_cons]; omega)]; exact q2
    · rw [if_neg q1]; exact q2
theorem RuG.init {t : List Int32} {hs : List LG} {g : LG} {rs : Rs} {n : Nat} {M Mc Mb : Mem} (hg : gF (Mc 20 0) = g) (hR : RSm Mc rs) (hH : HM Mc hs) (hI : ∃ nc nm, Inv g nc nm n) {q : Nat} (hps : PS Mc t q false) (hQ : Fq tX M Mc) (hv : (pTxt t 30 0).1 = -1) (hb : gF (Mb 22 0) = gF (Mc 20 0) ∧ ∀ b, b ≠ 22 → Mb b = Mc b) : RuG t hs g rs n 0 M (up3 (up3 Mb 32 0 11 1) 32 0 16 0) g rs 0 := by
  have hf : ∀ b r k, ¬ (b = 22 ∨ (b = 32 ∧ r = 0 ∧ (k = 11 ∨ k = 16))) → up3 (up3 Mb 32 0 11 1) 32 0 16 0 b r k = Mc b r k := fun b r k z => by rw [up3_ne (by omega), up3_ne (by omega), hb.2 b (by omega)]
  have hf' : Fq (fun b r k => b = 22 ∨ (b = 32 ∧ r = 0 ∧ (k = 11 ∨ k = 16))) Mc (up3 (up3 Mb 32 0 11 1) 32 0 16 0) := hf
  refine ⟨by rw [hf'.row (fun k => by omega)]; exact hg, hR.fq hf' (fun b r k z => by unfold tR at z; omega), hH.fq hf' (fun b r k z => by unfold tH at z; omega), hI, by rw [up3_off (by omega), up3_off (by omega), hb.1]; exact hg, by rw [up3_ne (by omega)]; exact up3_same, ⟨hps.1.fq hf' (fun b r k z => by unfold tT at z; omega), up3_same, by rw [hf 32 0 21 (by omega)]; exact hps.2.2⟩, fun _ => ⟨Nat.zero_le _, hv, by rw [List.drop_zero]⟩, by rw [List.drop_zero], hQ.tr (hf'.mono (fun b r k z => by unfold tX; omega)), hv⟩
theorem TM.nil {M : Mem} (h : M 32 0 15 = 0) : TM M [] := ⟨h, Nat.zero_le _, fun i hi => absurd hi (Nat.not_lt_zero i)⟩
theorem RunM.wrong {M Mc : Mem} {g : LG} {hs : List LG} {rs : Rs} {t : List Int32} {q : Nat} (hg : gF (Mc 20 0) = g) (hR : RSm Mc rs) (hH : HM Mc hs) (hx : Mc 32 0 11 = 0) (hQ : Fq tX M Mc) (hv : (pTxt t 30 0).1 = nI q) (hq : q ≤ 60) : RunM M g hs rs t (-2000 - nI q) (up3 Mc 32 0 15 0) := by
  have e : oRun g rs t = (-2000 - nI q, g, rs) := by
    unfold oRun
    rw [hv, if_neg (nI_ne_m1 (by omega))]
  have hneg : (-2000 : Int32) - nI q < 0 := (by decide +kernel : ∀ k, k < 61 → (-2000 : Int32) - nI k < 0) q (by omega)
  unfold RunM
  rw [e]
  exact ⟨rfl, by rw [up3_off (by omega)]; exact hg, hR.u0 (by decide), by unfold hsN; rw [if_pos hneg]; exact hH.u0 (by decide), TM.nil up3_same, by rw [up3_ne (by omega)]; exact hx, hQ.up (by unfold tX; omega)⟩
theorem RunM.bad {M M3 Mz : Mem} {g : LG} {hs : List LG} {rs : Rs} {t : List Int32} (h : RuB t hs g rs M M3) (hz : gF (Mz 20 0) = gF (up3 (up3 M3 32 0 11 0) 32 0 15 0 22 0) ∧ ∀ b, b ≠ 20 → Mz b = up3 (up3 M3 32 0 11 0) 32 0 15 0 b) : RunM M g hs rs t (-1014) Mz := by
  obtain ⟨h1, h2, h3, h4, h5, h6⟩ := h
  have hf : Fq (fun b r k => b = 20 ∨ (b = 32 ∧ r = 0 ∧ (k = 11 ∨ k = 15))) M3 Mz := fun b r k z => by rw [hz.2 b (by omega), up3_ne (by omega), up3_ne (by omega)]
  unfold RunM
  rw [h4, h5]
  refine ⟨rfl, by rw [hz.1, up3_off (by omega), up3_off (by omega)]; exact h1, h3.fq hf (fun b r k z => by unfold tR at z; omega), by unfold hsN; rw [if_pos (by decide)]; exact h2.fq hf (fun b r k z => by unfold tH at z; omega), TM.nil (by rw [hz.2 32 (by decide)]; exact up3_same), by rw [hz.2 32 (by decide), up3_ne (by omega)]; exact up3_same, h6.tr (hf.mono (fun b r k z => by unfold tX; omega))⟩
theorem RunM.done {M M3 Mz : Mem} {g g1 : LG} {hs : List LG} {rs rs1 : Rs} {t : List Int32} {n i p : Nat} (h : RuG t hs g rs n i M M3 g1 rs1 p) (hi : i = (pTxt t 30 0).2.length) (hv : (pTxt t 30 0).1 = -1) (hz : HM Mz ((gF (up3 (up3 M3 32 0 11 0) 32 0 15 0 22 0) :: hs).take 8) ∧ Fq tH (up3 (up3 M3 32 0 11 0) 32 0 15 0) Mz) : RunM M g hs rs t (nI (pTxt t 30 0).2.length) Mz := by
  have hn30 := h.n30
  obtain ⟨h1, h2, h3, h4, h5, h6, h7, h8, h9, h10, h11⟩ := h
  have e : oRun g rs t = (nI i, g1, rs1) := by
    unfold oRun
    rw [if_pos hv, h9, runL_end hi]
  have hf : Fq (fun b r k => tH b r k ∨ (b = 32 ∧ r = 0 ∧ (k = 11 ∨ k = 15))) M3 Mz := fun b r k z => by rw [hz.2 b r k (fun q => z (Or.inl q)), up3_ne (fun q => z (Or.inr (by omega))), up3_ne (fun q => z (Or.inr (by omega)))]
  have eg : gF (up3 (up3 M3 32 0 11 0) 32 0 15 0 22 0) = g := by rw [up3_off (by omega), up3_off (by omega)]; exact h5
  have hz1 := hz.1
  rw [eg] at hz1
  unfold RunM
  rw [e, ← hi]
  refine ⟨rfl, by rw [hf.row (fun k => by unfold tH; omega)]; exact h1, h2.fq hf (fun b r k z => by unfold tR at z; unfold tH; omega), by unfold hsN; rw [if_neg (nI_pos (by omega))]; exact hz1, TM.nil (by rw [hz.2 32 0 15 (by unfold tH; omega)]; exact up3_same), by rw [hz.2 32 0 11 (by unfold tH; omega), up3_ne (by omega)]; exact up3_same, h10.tr (hf.mono (fun b r k z => by unfold tH at z; unfold tX; omega))⟩
def rm_X11_run : Room := { frames := 8, cells := 0, slots := 0, locals := 176 }
theorem kv_X11_run : KV yX11_run RX11 cX11_run 5 (some .int) 0 := ⟨⟨gw_878, gw_879, gw_5, gw_880⟩, by decide +kernel⟩
set_option maxRecDepth 100000 in
set_option maxHeartbeats 4000000 in
theorem c_X11_run (E : ZE) (M : Mem) (g : LG) (hg : gF (M 20 0) = g) (nc nm n : Nat) (hI : Inv g nc nm n) (rs : Rs) (hR : RSm M rs) (hs : List LG) (hH : HM M hs) (htx : M 32 0 11 = 0) (t : List Int32) (hT : TM M t) (h8 : ∀ x, x ∈ t → rng x 32 126) (hn9 : n + 31 ≤ 100000) : Mt E yX11_run cX11_run 5 (some .int) rm_X11_run [.ref (za E 32 0)] M (RI (fun v M1 => RunM M g hs rs t v M1)) := by
  have hnc := hI.nc; have hnm := hI.nm; have hn := hI.c10; have hn2 := hI.m10; have hl0 : t.length ≤ 60 := hT.2.1
  refine z_met (own := RX11) (lv := [(0, .ref (za E 32 0))]) (by decide) rfl (Nat.le_of_ble_eq_true rfl) rfl (fun gg X Y => ?_)
  refine z_aload_n X (pc := 0) 0 dX11_run_0 rfl rfl ?_
  refine z_callV X (pc := 1) (rest := []) kv_X11_countOrders (c_X11_countOrders E M t hT h8) zk_32_0 (zc_32_0 E _) rfl rfl gw_883 (by decide) rfl rfl (Nat.le_of_ble_eq_true rfl) dX11_run_1 (zk_ri (fun vC Mc hcnt => ?_))
  obtain ⟨q, wr, hps, hQ, hv⟩ := hcnt
  have hgC : gF (Mc 20 0) = g := by rw [hQ.row (fun k => by unfold tP; omega)]; exact hg
  have hRC : RSm Mc rs := hR.fq hQ (fun b r k z => by unfold tR at z; unfold tP; omega)
  have hHC : HM Mc hs := hH.fq hQ (fun b r k z => by unfold tH at z; unfold tP; omega)
  have hxC : Mc 32 0 11 = 0 := by rw [hQ 32 0 11 (by unfold tP; omega)]; exact htx
  have hQC : Fq tX M Mc := hQ.mono (fun b r k z => by unfold tP at z; unfold tX; omega)
  rcases hv with ⟨rfl, hv, hq60⟩ | ⟨rfl, hv, rfl, hL30⟩
  · refine z_istore_n X (pc := 4) (lv1 := [(1, .int vC), (0, .ref (za E 32 0))]) dX11_run_4 rfl (by decide) rfl ?_
    refine z_aload_n X (pc := 5) 1 dX11_run_5 rfl rfl ?_
    refine z_get X (pc := 6) 21 zk_32_0 (zc_32_0 E _) rfl inlX11 (by decide) gw_881 rfl rfl dX11_run_6 ?_
    refine z_top (y := 1) (show Mc 32 0 21 = 1 from hps.2.2) ?_
    refine z_if_eq X (pc := 9) (tgt := 26) dX11_run_9 (by decide) (fun c9 => ?_) (fun c9 => ?_)
    · exact absurd c9 (by decide)
    · refine z_aload_n X (pc := 12) 1 dX11_run_12 rfl rfl ?_
      refine z_iconst X (pc := 13) (v := 0) dX11_run_13 (by decide) ?_
      refine z_put X (pc := 14) 15 zk_32_0 (zc_32_0 E _) rfl inlX11 tyX11 tyX11_ok nmX11 (by decide) gw_815 rfl rfl (ty := .int) (by decide +kernel) rfl rfl (Nat.le_of_ble_eq_true rfl) dX11_run_14 rfl ?_
      refine z_sipush X (pc := 17) (v := (-2000)) dX11_run_17 (by decide) ?_
      refine z_aload_n X (pc := 20) 1 dX11_run_20 rfl rfl ?_
      refine z_get X (pc := 21) 16 zk_32_0 (zc_32_0 E _) rfl inlX11 (by decide) gw_882 rfl rfl dX11_run_21 ?_
      refine z_top (y := (nI q)) ((up3_ne (by omega)).trans hps.2.1) ?_
      refine z_isub X (pc := 24) dX11_run_24 ?_
      exact z_iret X Y dX11_run_25 ⟨_, rfl, RunM.wrong hgC hRC hHC hxC hQC hv hq60⟩
  · refine z_istore_n X (pc := 4) (lv1 := [(1, .int (nI (List.length (pTxt t 30 0).2))), (0, .ref (za E 32 0))]) dX11_run_4 rfl (by decide) rfl ?_
    refine z_aload_n X (pc := 5) 1 dX11_run_5 rfl rfl ?_
    refine z_get X (pc := 6) 21 zk_32_0 (zc_32_0 E _) rfl inlX11 (by decide) gw_881 rfl rfl dX11_run_6 ?_
    refine z_top (y := 0) (show Mc 32 0 21 = 0 from hps.2.2) ?_
    refine z_if_eq X (pc := 9) (tgt := 26) dX11_run_9 (by decide) (fun c9 => ?_) (fun c9 => ?_)
    · refine z_aload_n X (pc := 26) 1 dX11_run_26 rfl rfl ?_
      refine z_get X (pc := 27) 0 zk_32_0 (zc_32_0 E _) rfl inlX11 (by decide) gw_138 rfl rfl dX11_run_27 ?_
      refine z_aload_n X (pc := 30) 1 dX11_run_30 rfl rfl ?_
      refine z_get X (pc := 31) 2 zk_32_0 (zc_32_0 E _) rfl inlX11 (by decide) gw_140 rfl rfl dX11_run_31 ?_
      refine z_callS X (pc := 34) (rest := []) ks_X11_copyRow (c_X11_copyRow E Mc 20 22 (by decide) (by decide) (by decide)) gw_258 (by decide) rfl rfl (Nat.le_of_ble_eq_true rfl) dX11_run_34 (zk_rv (fun Mb hcb => ?_))
      refine z_aload_n X (pc := 37) 1 dX11_run_37 rfl rfl ?_
      refine z_iconst X (pc := 38) (v := 1) dX11_run_38 (by decide) ?_
      refine z_put X (pc := 39) 11 zk_32_0 (zc_32_0 E _) rfl inlX11 tyX11 tyX11_ok nmX11 (by decide) gw_252 rfl rfl (ty := .boolean) (by decide +kernel) (by decide) rfl (Nat.le_of_ble_eq_true rfl) dX11_run_39 rfl ?_
      refine z_iconst X (pc := 42) (v := 1) dX11_run_42 (by decide) ?_
      refine z_istore_n X (pc := 43) (lv1 := [(2, .int 1), (1, .int (nI (List.length (pTxt t 30 0).2))), (0, .ref (za E 32 0))]) dX11_run_43 rfl (by decide) rfl ?_
      refine z_aload_n X (pc := 44) 2 dX11_run_44 rfl rfl ?_
      refine z_iconst X (pc := 45) (v := 0) dX11_run_45 (by decide) ?_
      refine z_put X (pc := 46) 16 zk_32_0 (zc_32_0 E _) rfl inlX11 tyX11 tyX11_ok nmX11 (by decide) gw_882 rfl rfl (ty := .int) (by decide +kernel) rfl rfl (Nat.le_of_ble_eq_true rfl) dX11_run_46 rfl ?_
      refine z_iconst X (pc := 49) (v := 0) dX11_run_49 (by decide) ?_
      refine z_istore_n X (pc := 50) (lv1 := [(3, .int 0), (2, .int 1), (1, .int (nI (List.length (pTxt t 30 0).2))), (0, .ref (za E 32 0))]) dX11_run_50 rfl (by decide) rfl ?_
      refine z_sub (lv' := [(3, .int (nI 0)), (2, .int (zb true)), (1, .int (nI (List.length (pTxt t 30 0).2))), (0, .ref (za E 32 0))]) [0, 1, 2, 3] rfl ?_
      refine z_loop (List.length (pTxt t 30 0).2) 51 (σ := Mem × LG × Rs × Nat × Bool) (fun i s => (s.2.2.2.2 = true ∧ RuG t hs g rs n i M s.1 s.2.1 s.2.2.1 s.2.2.2.1) ∨ (s.2.2.2.2 = false ∧ RuB t hs g rs M s.1)) (fun i s => (s.1, [(3, .int (nI i)), (2, .int (zb s.2.2.2.2)), (1, .int (nI (List.length (pTxt t 30 0).2))), (0, .ref (za E 32 0))])) ?_ 0 ⟨(up3 (up3 Mb 32 0 11 1) 32 0 16 0), g, rs, 0, true⟩ (Nat.zero_le _) (Or.inl ⟨rfl, RuG.init hgC hRC hHC ⟨nc, nm, hI⟩ hps hQC hv hcb⟩)
      intro i s hi51 hJ51 ih51
      obtain ⟨M3, g1, rs1, p, go⟩ := s
      show Z gg E M3 [(3, .int (nI i)), (2, .int (zb go)), (1, .int (nI (List.length (pTxt t 30 0).2))), (0, .ref (za E 32 0))] 51 []
      replace hJ51 : (go = true ∧ RuG t hs g rs n i M M3 g1 rs1 p) ∨ (go = false ∧ RuB t hs g rs M M3) := hJ51
      rcases hJ51 with ⟨rfl, hG⟩ | ⟨rfl, hB⟩
      · refine z_eq (lv' := [(3, .int (nI i)), (2, .int 1), (1, .int (nI (List.length (pTxt t 30 0).2))), (0, .ref (za E 32 0))]) rfl rfl ?_
        have hn30 := hG.n30
        refine z_iload_n X (pc := 51) 0 dX11_run_51 rfl rfl ?_
        refine z_iload_n X (pc := 52) 2 dX11_run_52 rfl rfl ?_
        refine z_nicmp_ge X (pc := 53) (a := i) (b := List.length (pTxt t 30 0).2) (tgt := 119) dX11_run_53 (by decide) (by omega) (by omega) (fun c53 => ?_) (fun c53 => ?_)
        · refine z_aload_n X (pc := 119) 3 dX11_run_119 rfl rfl ?_
          refine z_iconst X (pc := 120) (v := 0) dX11_run_120 (by decide) ?_
          refine z_put X (pc := 121) 11 zk_32_0 (zc_32_0 E _) rfl inlX11 tyX11 tyX11_ok nmX11 (by decide) gw_252 rfl rfl (ty := .boolean) (by decide +kernel) (by decide) rfl (Nat.le_of_ble_eq_true rfl) dX11_run_121 rfl ?_
          refine z_aload_n X (pc := 124) 3 dX11_run_124 rfl rfl ?_
          refine z_iconst X (pc := 125) (v := 0) dX11_run_125 (by decide) ?_
          refine z_put X (pc := 126) 15 zk_32_0 (zc_32_0 E _) rfl inlX11 tyX11 tyX11_ok nmX11 (by decide) gw_815 rfl rfl (ty := .int) (by decide +kernel) rfl rfl (Nat.le_of_ble_eq_true rfl) dX11_run_126 rfl ?_
          refine z_iload_n X (pc := 129) 1 dX11_run_129 rfl rfl ?_
          refine z_if_ne X (pc := 130) (tgt := 148) dX11_run_130 (by decide) (fun c130 => ?_) (fun c130 => ?_)
          · refine z_aload_n X (pc := 148) 3 dX11_run_148 rfl rfl ?_
            refine z_aload_n X (pc := 149) 3 dX11_run_149 rfl rfl ?_
            refine z_get X (pc := 150) 2 zk_32_0 (zc_32_0 E _) rfl inlX11 (by decide) gw_140 rfl rfl dX11_run_150 ?_
            refine z_callV X (pc := 153) (rest := []) kv_X11_remember (c_X11_remember E (up3 (up3 M3 32 0 11 0) 32 0 15 0) 22 (by decide) hs (HM.u0 (HM.u0 hG.hist (by decide)) (by decide))) zk_32_0 (zc_32_0 E _) rfl rfl gw_253 (by decide) rfl rfl (Nat.le_of_ble_eq_true rfl) dX11_run_153 (zk_rv (fun Mz hrm => ?_))
            refine z_iload_n X (pc := 156) 2 dX11_run_156 rfl rfl ?_
            exact z_iret X Y dX11_run_157 ⟨_, rfl, RunM.done hG (by omega) hv hrm⟩
          · exact absurd c130 (by decide)
        · refine z_iload_n X (pc := 56) 1 dX11_run_56 rfl rfl ?_
          refine z_if_eq X (pc := 57) (tgt := 119) dX11_run_57 (by decide) (fun c57 => ?_) (fun c57 => ?_)
          · exact absurd c57 (by decide)
          · refine z_aload_n X (pc := 60) 3 dX11_run_60 rfl rfl ?_
            obtain ⟨hp60, hi30⟩ := hG.pb hl0 (by omega)
            refine z_callV X (pc := 61) (rest := []) kv_X11_readOrder (c_X11_readOrder E M3 t p hG.ps (by omega) h8) zk_32_0 (zc_32_0 E _) rfl rfl gw_887 (by decide) rfl rfl (Nat.le_of_ble_eq_true rfl) dX11_run_61 (zk_rv (fun M_1 hro => ?_))
            refine z_aload_n X (pc := 64) 3 dX11_run_64 rfl rfl ?_
            refine z_dup X (pc := 65) dX11_run_65 rfl ?_
            refine z_get X (pc := 66) 16 zk_32_0 (zc_32_0 E _) rfl inlX11 (by decide) gw_882 rfl rfl dX11_run_66 ?_
            refine z_top (y := (nI ((pOrd t p).2.1))) hro.1.2.1 ?_
            refine z_iconst X (pc := 69) (v := 1) dX11_run_69 (by decide) ?_
            refine z_iadd X (pc := 70) dX11_run_70 ?_
            refine z_top (y := (nI ((pOrd t p).2.1 + 1))) (nI_1 _) ?_
            refine z_put X (pc := 71) 16 zk_32_0 (zc_32_0 E _) rfl inlX11 tyX11 tyX11_ok nmX11 (by decide) gw_882 rfl rfl (ty := .int) (by decide +kernel) rfl rfl (Nat.le_of_ble_eq_true rfl) dX11_run_71 rfl ?_
            refine z_aload_n X (pc := 74) 3 dX11_run_74 rfl rfl ?_
            obtain ⟨nc1, nm1, hI1⟩ := hG.inv
            have hcar := hG.car (v := nI ((pOrd t p).2.1 + 1)) hl0 (by omega) hro
            refine z_callV X (pc := 75) (rest := []) kv_X11_carryOut (c_X11_carryOut E (up3 M_1 32 0 16 (nI ((pOrd t p).2.1 + 1))) g1 hcar.1 nc1 nm1 (n + i) hI1 rs1 hcar.2.1 hs hcar.2.2.1 hcar.2.2.2.1 (pOrd t p).2.2 hcar.2.2.2.2.1 hcar.2.2.2.2.2 (by omega)) zk_32_0 (zc_32_0 E _) rfl rfl gw_991 (by decide) rfl rfl (Nat.le_of_ble_eq_true rfl) dX11_run_75 (zk_ri (fun vO M_2 hmx => ?_))
            refine z_istore X (pc := 78) (lv1 := [(4, .int vO), (3, .int (nI i)), (2, .int 1), (1, .int (nI (List.length (pTxt t 30 0).2))), (0, .ref (za E 32 0))]) dX11_run_78 (by decide) rfl ?_
            refine z_iload X (pc := 80) 0 dX11_run_80 rfl ?_
            refine z_if_lt X (pc := 82) (tgt := 89) dX11_run_82 (by decide) (fun c82 => ?_) (fun c82 => ?_)
            · refine z_iconst X (pc := 89) (v := 0) dX11_run_89 (by decide) ?_
              refine z_istore_n X (pc := 90) (lv1 := [(2, .int 0), (4, .int vO), (3, .int (nI i)), (1, .int (nI (List.length (pTxt t 30 0).2))), (0, .ref (za E 32 0))]) dX11_run_90 rfl (by decide) rfl ?_
              refine z_iload_n X (pc := 91) 0 dX11_run_91 rfl rfl ?_
              refine z_if_ne X (pc := 92) (tgt := 113) dX11_run_92 (by decide) (fun c92 => ?_) (fun c92 => ?_)
              · exact absurd c92 (by decide)
              · refine z_aload_n X (pc := 95) 4 dX11_run_95 rfl rfl ?_
                refine z_iload X (pc := 96) 1 dX11_run_96 rfl ?_
                refine z_sipush X (pc := 98) (v := (-1014)) dX11_run_98 (by decide) ?_
                refine z_icmp_ne X (pc := 101) (tgt := 108) dX11_run_101 (by decide) (fun c101 => ?_) (fun c101 => ?_)
                · refine z_iconst X (pc := 108) (v := 0) dX11_run_108 (by decide) ?_
                  refine z_iload_n X (pc := 109) 2 dX11_run_109 rfl rfl ?_
                  refine z_callV X (pc := 110) (rest := []) kv_X11_refuseText (c_X11_refuseText_no E M_2 i) zk_32_0 (zc_32_0 E _) rfl rfl gw_1005 (by decide) rfl rfl (Nat.le_of_ble_eq_true rfl) dX11_run_110 (zk_rv (fun M_3 hrt => ?_))
                  refine z_iinc X (pc := 113) (v := (nI (i + 1))) (lv1 := [(3, .int (nI (i + 1))), (2, .int 0), (4, .int vO), (1, .int (nI (List.length (pTxt t 30 0).2))), (0, .ref (za E 32 0))]) 2 dX11_run_113 rfl (nI_1 _) (by decide) rfl ?_
                  refine z_goto X (pc := 116) (tgt := 51) dX11_run_116 (by decide) ?_
                  refine z_sub (lv' := [(3, .int (nI (i + 1))), (2, .int 0), (1, .int (nI (List.length (pTxt t 30 0).2))), (0, .ref (za E 32 0))]) [0, 1, 3, 4] rfl ?_
                  refine z_eq (lv' := [(3, .int (nI (i + 1))), (2, .int (zb false)), (1, .int (nI (List.length (pTxt t 30 0).2))), (0, .ref (za E 32 0))]) (by rfl) rfl ?_
                  exact ih51 ⟨M_3, g1, rs1, p, false⟩ (by omega) (Or.inr ⟨rfl, hG.bad hl0 (by omega) hv hro hmx c82 (Or.inr ⟨c101, hrt⟩)⟩)
                · refine z_iconst X (pc := 104) (v := 1) dX11_run_104 (by decide) ?_
                  refine z_goto X (pc := 105) (tgt := 109) dX11_run_105 (by decide) ?_
                  refine z_iload_n X (pc := 109) 2 dX11_run_109 rfl rfl ?_
                  refine z_callV X (pc := 110) (rest := []) kv_X11_refuseText (c_X11_refuseText E M_2 _ hmx.2.2.1 i (hmx.2.2.2.2.2 c101)) zk_32_0 (zc_32_0 E _) rfl rfl gw_1005 (by decide) rfl rfl (Nat.le_of_ble_eq_true rfl) dX11_run_110 (zk_rv (fun M_4 hrt => ?_))
                  refine z_iinc X (pc := 113) (v := (nI (i + 1))) (lv1 := [(3, .int (nI (i + 1))), (2, .int 0), (4, .int vO), (1, .int (nI (List.length (pTxt t 30 0).2))), (0, .ref (za E 32 0))]) 2 dX11_run_113 rfl (nI_1 _) (by decide) rfl ?_
                  refine z_goto X (pc := 116) (tgt := 51) dX11_run_116 (by decide) ?_
                  refine z_sub (lv' := [(3, .int (nI (i + 1))), (2, .int 0), (1, .int (nI (List.length (pTxt t 30 0).2))), (0, .ref (za E 32 0))]) [0, 1, 3, 4] rfl ?_
                  refine z_eq (lv' := [(3, .int (nI (i + 1))), (2, .int (zb false)), (1, .int (nI (List.length (pTxt t 30 0).2))), (0, .ref (za E 32 0))]) (by rfl) rfl ?_
                  exact ih51 ⟨M_4, g1, rs1, p, false⟩ (by omega) (Or.inr ⟨rfl, hG.bad hl0 (by omega) hv hro hmx c82 (Or.inl ⟨c101, hrt⟩)⟩)
            · refine z_iconst X (pc := 85) (v := 1) dX11_run_85 (by decide) ?_
              refine z_goto X (pc := 86) (tgt := 90) dX11_run_86 (by decide) ?_
              refine z_istore_n X (pc := 90) (lv1 := [(2, .int 1), (4, .int vO), (3, .int (nI i)), (1, .int (nI (List.length (pTxt t 30 0).2))), (0, .ref (za E 32 0))]) dX11_run_90 rfl (by decide) rfl ?_
              refine z_iload_n X (pc := 91) 0 dX11_run_91 rfl rfl ?_
              refine z_if_ne X (pc := 92) (tgt := 113) dX11_run_92 (by decide) (fun c92 => ?_) (fun c92 => ?_)
              · refine z_iinc X (pc := 113) (v := (nI (i + 1))) (lv1 := [(3, .int (nI (i + 1))), (2, .int 1), (4, .int vO), (1, .int (nI (List.length (pTxt t 30 0).2))), (0, .ref (za E 32 0))]) 2 dX11_run_113 rfl (nI_1 _) (by decide) rfl ?_
                refine z_goto X (pc := 116) (tgt := 51) dX11_run_116 (by decide) ?_
                refine z_sub (lv' := [(3, .int (nI (i + 1))), (2, .int 1), (1, .int (nI (List.length (pTxt t 30 0).2))), (0, .ref (za E 32 0))]) [0, 1, 3, 4] rfl ?_
                refine z_eq (lv' := [(3, .int (nI (i + 1))), (2, .int (zb true)), (1, .int (nI (List.length (pTxt t 30 0).2))), (0, .ref (za E 32 0))]) (by rfl) rfl ?_
                exact ih51 ⟨M_2, (oOrder g1 rs1 (pOrd t p).2.2).2.1, (oOrder g1 rs1 (pOrd t p).2.2).2.2, (pOrd t p).2.1 + 1, true⟩ (by omega) (Or.inl ⟨rfl, hG.go (by omega) hn9 hl0 hro hmx c82⟩)
              · exact absurd c92 (by decide)
      · refine z_eq (lv' := [(3, .int (nI i)), (2, .int 0), (1, .int (nI (List.length (pTxt t 30 0).2))), (0, .ref (za E 32 0))]) rfl rfl ?_
        refine z_iload_n X (pc := 51) 0 dX11_run_51 rfl rfl ?_
        refine z_iload_n X (pc := 52) 2 dX11_run_52 rfl rfl ?_
        refine z_nicmp_ge X (pc := 53) (a := i) (b := List.length (pTxt t 30 0).2) (tgt := 119) dX11_run_53 (by decide) (by omega) (by omega) (fun c53 => ?_) (fun c53 => ?_)
        · refine z_aload_n X (pc := 119) 3 dX11_run_119 rfl rfl ?_
          refine z_iconst X (pc := 120) (v := 0) dX11_run_120 (by decide) ?_
          refine z_put X (pc := 121) 11 zk_32_0 (zc_32_0 E _) rfl inlX11 tyX11 tyX11_ok nmX11 (by decide) gw_252 rfl rfl (ty := .boolean) (by decide +kernel) (by decide) rfl (Nat.le_of_ble_eq_true rfl) dX11_run_121 rfl ?_
          refine z_aload_n X (pc := 124) 3 dX11_run_124 rfl rfl ?_
          refine z_iconst X (pc := 125) (v := 0) dX11_run_125 (by decide) ?_
          refine z_put X (pc := 126) 15 zk_32_0 (zc_32_0 E _) rfl inlX11 tyX11 tyX11_ok nmX11 (by decide) gw_815 rfl rfl (ty := .int) (by decide +kernel) rfl rfl (Nat.le_of_ble_eq_true rfl) dX11_run_126 rfl ?_
          refine z_iload_n X (pc := 129) 1 dX11_run_129 rfl rfl ?_
          refine z_if_ne X (pc := 130) (tgt := 148) dX11_run_130 (by decide) (fun c130 => ?_) (fun c130 => ?_)
          · exact absurd c130 (by decide)
          · refine z_aload_n X (pc := 133) 3 dX11_run_133 rfl rfl ?_
            refine z_get X (pc := 134) 2 zk_32_0 (zc_32_0 E _) rfl inlX11 (by decide) gw_140 rfl rfl dX11_run_134 ?_
            refine z_aload_n X (pc := 137) 3 dX11_run_137 rfl rfl ?_
            refine z_get X (pc := 138) 0 zk_32_0 (zc_32_0 E _) rfl inlX11 (by decide) gw_138 rfl rfl dX11_run_138 ?_
            refine z_callS X (pc := 141) (rest := []) ks_X11_copyRow (c_X11_copyRow E (up3 (up3 M3 32 0 11 0) 32 0 15 0) 22 20 (by decide) (by decide) (by decide)) gw_258 (by decide) rfl rfl (Nat.le_of_ble_eq_true rfl) dX11_run_141 (zk_rv (fun Mz hcz => ?_))
            refine z_sipush X (pc := 144) (v := (-1014)) dX11_run_144 (by decide) ?_
            exact z_iret X Y dX11_run_147 ⟨_, rfl, RunM.bad hB hcz⟩
        · refine z_iload_n X (pc := 56) 1 dX11_run_56 rfl rfl ?_
          refine z_if_eq X (pc := 57) (tgt := 119) dX11_run_57 (by decide) (fun c57 => ?_) (fun c57 => ?_)
          · refine z_aload_n X (pc := 119) 3 dX11_run_119 rfl rfl ?_
            refine z_iconst X (pc := 120) (v := 0) dX11_run_120 (by decide) ?_
            refine z_put X (pc := 121) 11 zk_32_0 (zc_32_0 E _) rfl inlX11 tyX11 tyX11_ok nmX11 (by decide) gw_252 rfl rfl (ty := .boolean) (by decide +kernel) (by decide) rfl (Nat.le_of_ble_eq_true rfl) dX11_run_121 rfl ?_
            refine z_aload_n X (pc := 124) 3 dX11_run_124 rfl rfl ?_
            refine z_iconst X (pc := 125) (v := 0) dX11_run_125 (by decide) ?_
            refine z_put X (pc := 126) 15 zk_32_0 (zc_32_0 E _) rfl inlX11 tyX11 tyX11_ok nmX11 (by decide) gw_815 rfl rfl (ty := .int) (by decide +kernel) rfl rfl (Nat.le_of_ble_eq_true rfl) dX11_run_126 rfl ?_
            refine z_iload_n X (pc := 129) 1 dX11_run_129 rfl rfl ?_
            refine z_if_ne X (pc := 130) (tgt := 148) dX11_run_130 (by decide) (fun c130 => ?_) (fun c130 => ?_)
            · exact absurd c130 (by decide)
            · refine z_aload_n X (pc := 133) 3 dX11_run_133 rfl rfl ?_
              refine z_get X (pc := 134) 2 zk_32_0 (zc_32_0 E _) rfl inlX11 (by decide) gw_140 rfl rfl dX11_run_134 ?_
              refine z_aload_n X (pc := 137) 3 dX11_run_137 rfl rfl ?_
              refine z_get X (pc := 138) 0 zk_32_0 (zc_32_0 E _) rfl inlX11 (by decide) gw_138 rfl rfl dX11_run_138 ?_
              refine z_callS X (pc := 141) (rest := []) ks_X11_copyRow (c_X11_copyRow E (up3 (up3 M3 32 0 11 0) 32 0 15 0) 22 20 (by decide) (by decide) (by decide)) gw_258 (by decide) rfl rfl (Nat.le_of_ble_eq_true rfl) dX11_run_141 (zk_rv (fun Mz hcz => ?_))
              refine z_sipush X (pc := 144) (v := (-1014)) dX11_run_144 (by decide) ?_
              exact z_iret X Y dX11_run_147 ⟨_, rfl, RunM.bad hB hcz⟩
          · exact absurd (by decide) c57
    · exact absurd (by decide) c9
