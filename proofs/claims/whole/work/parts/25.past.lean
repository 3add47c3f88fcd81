theorem z_hald {g : ZG} {E : ZE} {own : String} {cc : ByteArray} {nL : Nat} {rm : Room} {M : Mem} {lv : List (Nat × Value)} {pc : Nat} {st : List Value} (X : Cb g E own cc nL rm) {j : Nat} {i : Int32} (hi : i = nI j) (hj : j < 8) (hd : decode cc pc = .ok (.aaload, 1))
    (k : Z g E M lv (pc + 1) (.ref (za E (24 + j) 0) :: st)) : Z g E M lv pc (.int i :: .ref (za E 32 6) :: st) := by
  intro H locs ls hW hS hl
  obtain ⟨q, -, hq⟩ := zws_at (E := E) (M := M) (b := 32) (r := 6) (by decide)
  subst hi
  have k1 := k H locs ls hW hS hl
  have hlt : (nI j).toNatClampNeg < 8 := by rw [nI_clamp (by omega)]; exact hj
  refine W.aald (v := va_rf ((fun k => some (za E (24 + k) 0)) (nI j).toNatClampNeg)) (ty := .array .int) X.1 X.2.1 (hW.1 q _ hq) ((X.2.2.2.2.2.1.2 3 _ rfl).1 8 (fun j => va_rf ((fun k => some (za E (24 + k) 0)) j))) rfl (fun q => by cases q) (by show ¬ (nI j < 0 ∨ (arrV _ _ _).slots.size ≤ _); rw [arrV_size]; exact (show vp_in (nI j) 8 from vp_in_nI hj (by decide))) (by show (arrV _ _ _).slots[_]? = _; rw [arrV_read _ _ hlt]) rfl rfl hd ?_
  rw [nI_clamp (by omega)]
  exact k1
/-! what a call may touch -/
def Fq (P : Nat → Nat → Nat → Prop) (M M1 : Mem) : Prop := ∀ b r k, ¬ P b r k → M1 b r k = M b r k
theorem Fq.rf {P : Nat → Nat → Nat → Prop} {M : Mem} : Fq P M M := fun _ _ _ _ => rfl
theorem Fq.tr {P : Nat → Nat → Nat → Prop} {M M1 M2 : Mem} (h : Fq P M M1) (h2 : Fq P M1 M2) : Fq P M M2 := fun b r k q => (h2 b r k q).trans (h b r k q)
theorem Fq.mono {P Q : Nat → Nat → Nat → Prop} {M M1 : Mem} (h : Fq P M M1) (hPQ : ∀ b r k, P b r k → Q b r k) : Fq Q M M1 := fun b r k q => h b r k (fun z => q (hPQ b r k z))
theorem Fq.up {P : Nat → Nat → Nat → Prop} {M M1 : Mem} {b r k : Nat} {v : Int32} (h : Fq P M M1) (hp : P b r k) : Fq P M (up3 M1 b r k v) := fun b' r' k' q => by
  rw [up3_ne (fun e => q (by obtain ⟨rfl, rfl, rfl⟩ := e; exact hp))]
  exact h b' r' k' q
def tH (b r k : Nat) : Prop := (24 ≤ b ∧ b ≤ 31) ∨ (b = 32 ∧ r = 0 ∧ k = 8)
def tR (b r k : Nat) : Prop := b = 32 ∧ (r = 1 ∨ r = 2 ∨ (r = 0 ∧ k = 9))
def tA (b r k : Nat) : Prop := b = 20 ∨ (b = 32 ∧ r = 3 ∧ k = k)
def tC (b r k : Nat) : Prop := tH b r k ∨ tR b r k ∨ tA b r k
theorem SF.fq {M M1 : Mem} {g : LG} (h : SF M g M1) : Fq tA M M1 := fun b r k q => by rw [h.2 b (fun e => q (Or.inl e))]
theorem Fq.row {P : Nat → Nat → Nat → Prop} {M M1 : Mem} {b r : Nat} (h : Fq P M M1) (d : ∀ k, ¬ P b r k) : M1 b r = M b r := funext fun k => h b r k (d k)
theorem Fq.g20 {M M1 : Mem} {g : LG} (h : Fq tH M M1) (hg : gF (M 20 0) = g) : gF (M1 20 0) = g := by rw [h.row (fun k => by unfold tH; omega)]; exact hg
/-- the reference's reasons -/
def RSm (M : Mem) (rs : Rs) : Prop := M 32 0 9 = nI rs.length ∧ rs.length ≤ 3 ∧ ∀ i, i < rs.length → M 32 1 i = (rs.getD i (0, 0)).1 ∧ M 32 2 i = (rs.getD i (0, 0)).2
theorem RSm.fq {P : Nat → Nat → Nat → Prop} {M M1 : Mem} {rs : Rs} (h : RSm M rs) (e : Fq P M M1) (d : ∀ b r k, tR b r k → ¬ P b r k) : RSm M1 rs := by
  obtain ⟨h1, h2, h3⟩ := h
  refine ⟨by rw [e 32 0 9 (d _ _ _ ⟨rfl, Or.inr (Or.inr ⟨rfl, rfl⟩)⟩)]; exact h1, h2, fun i hi => ?_⟩
  rw [e 32 1 i (d _ _ _ ⟨rfl, Or.inl rfl⟩), e 32 2 i (d _ _ _ ⟨rfl, Or.inr (Or.inl rfl)⟩)]
  exact h3 i hi
theorem Rm_one {M : Mem} {a b : Int32} : RSm (up3 (up3 (up3 M 32 1 0 a) 32 2 0 b) 32 0 9 1) [(a, b)] ∧ Fq tR M (up3 (up3 (up3 M 32 1 0 a) 32 2 0 b) 32 0 9 1) := by
  refine ⟨⟨by rw [up3_same]; rfl, by simp, fun i hi => ?_⟩, ((Fq.rf.up (by unfold tR; omega)).up (by unfold tR; omega)).up (by unfold tR; omega)⟩
  have : i = 0 := by simpa using hi
  subst this
  exact ⟨by simp [up3], by simp [up3]⟩
theorem Rm_two {M M1 : Mem} {p a b : Int32} (h : RSm M1 [(2, p)] ∧ Fq tR M M1) : RSm (up3 (up3 (up3 M1 32 1 1 a) 32 2 1 b) 32 0 9 2) [(2, p), (a, b)] ∧ Fq tR M (up3 (up3 (up3 M1 32 1 1 a) 32 2 1 b) 32 0 9 2) := by
  refine ⟨⟨by rw [up3_same]; rfl, by simp, fun i hi => ?_⟩, ((h.2.up (by unfold tR; omega)).up (by unfold tR; omega)).up (by unfold tR; omega)⟩
  have h0 := h.1.2.2 0 (show 0 < 1 from Nat.one_pos)
  have hi : i < 2 := hi
  rcases (show i = 0 ∨ i = 1 by omega) with rfl | rfl
  · exact ⟨by simpa [up3] using h0.1, by simpa [up3] using h0.2⟩
  · exact ⟨by simp [up3], by simp [up3]⟩
/-- the reference's history: newest first -/
def HM (M : Mem) (hs : List LG) : Prop := M 32 0 8 = nI hs.length ∧ hs.length ≤ 8 ∧ ∀ i, i < hs.length → gF (M (24 + (hs.length - 1 - i)) 0) = hs.getD i (fun _ _ => 0)
theorem HM.fq {P : Nat → Nat → Nat → Prop} {M M1 : Mem} {hs : List LG} (h : HM M hs) (e : Fq P M M1) (d : ∀ b r k, tH b r k → ¬ P b r k) : HM M1 hs := by
  obtain ⟨h1, h2, h3⟩ := h
  refine ⟨by rw [e 32 0 8 (d _ _ _ (Or.inr ⟨rfl, rfl, rfl⟩))]; exact h1, h2, fun i hi => ?_⟩
  rw [e.row (fun k => d _ _ _ (Or.inl (by omega)))]
  exact h3 i hi
def ShJ (M : Mem) (k : Nat) (M1 : Mem) : Prop := (∀ j, j < k → gF (M1 (24 + j) 0) = gF (M (25 + j) 0)) ∧ (∀ j, k ≤ j → j < 8 → M1 (24 + j) = M (24 + j)) ∧ M1 32 0 8 = 7 ∧ Fq tH M M1
theorem ShJ.init {M : Mem} : ShJ M 0 (up3 M 32 0 8 7) := ⟨fun j h => absurd h (Nat.not_lt_zero j), fun j _ h => up3_off (by omega), up3_same, Fq.rf.up (Or.inr ⟨rfl, rfl, rfl⟩)⟩
theorem ShJ.go {M M1 M2 : Mem} {k : Nat} (h : ShJ M k M1) (hk : k < 7) (hc : gF (M2 (24 + k) 0) = gF (M1 (24 + (k + 1)) 0) ∧ ∀ b, b ≠ 24 + k → M2 b = M1 b) : ShJ M (k + 1) M2 := by
  obtain ⟨h1, h2, h3, h4⟩ := h
  refine ⟨fun j hj => ?_, fun j hj hj8 => by rw [hc.2 _ (by omega), h2 j (by omega) hj8], by rw [hc.2 32 (by omega)]; exact h3, fun b r k' q => ?_⟩
  · by_cases e : j = k
    · subst e
      rw [hc.1, h2 (j + 1) (by omega) (by omega), show 25 + j = 24 + (j + 1) by omega]
    · rw [hc.2 _ (by omega), h1 j (by omega)]
  · by_cases e : b = 24 + k
    · exact absurd (Or.inl (by omega)) q
    · rw [hc.2 b e]; exact h4 b r k' q
theorem HM.push {M M1 : Mem} {hs : List LG} {b1 : Nat} {v : Int32} (h : HM M hs) (hl : ¬ hs.length = 8) (hb : 20 ≤ b1 ∧ b1 ≤ 22) (hc : gF (M1 (24 + hs.length) 0) = gF (M b1 0) ∧ ∀ b, b ≠ 24 + hs.length → M1 b = M b) (hv : v = nI (hs.length + 1)) : HM (up3 M1 32 0 8 v) ((gF (M b1 0) :: hs).take 8) ∧ Fq tH M (up3 M1 32 0 8 v) := by
  obtain ⟨h1, h2, h3⟩ := h
  have e : (gF (M b1 0) :: hs).take 8 = gF (M b1 0) :: hs := List.take_of_length_le (by simp; omega)
  rw [e]
  refine ⟨⟨by rw [up3_same, hv]; rfl, by simp; omega, fun i hi => ?_⟩, fun b r k q => ?_⟩
  · have hi : i < hs.length + 1 := hi
    have el : (gF (M b1 0) :: hs).length = hs.length + 1 := rfl
    rw [el, up3_off (by omega)]
    cases i with
    | zero => rw [show 24 + (hs.length + 1 - 1 - 0) = 24 + hs.length by omega, hc.1]; rfl
    | succ i =>
      rw [show 24 + (hs.length + 1 - 1 - (i + 1)) = 24 + (hs.length - 1 - i) by omega, hc.2 _ (by omega)]
      exact h3 i (by omega)
  · rw [up3_ne (fun e => q (Or.inr e)), hc.2 b (fun e => q (Or.inl (by omega)))]
theorem HM.full {M M1 M2 : Mem} {hs : List LG} {b1 : Nat} {v : Int32} (h : HM M hs) (hl : hs.length = 8) (hb : 20 ≤ b1 ∧ b1 ≤ 22) (hJ : ShJ M 7 M1) (hc : gF (M2 31 0) = gF (M1 b1 0) ∧ ∀ b, b ≠ 31 → M2 b = M1 b) (hv : v = 8) : HM (up3 M2 32 0 8 v) ((gF (M b1 0) :: hs).take 8) ∧ Fq tH M (up3 M2 32 0 8 v) := by
  obtain ⟨h1, h2, h3⟩ := h
  obtain ⟨j1, j2, j3, j4⟩ := hJ
  have el : ((gF (M b1 0) :: hs).take 8).length = 8 := by rw [List.length_take, List.length_cons]; omega
  refine ⟨⟨by rw [up3_same, hv, el]; rfl, by omega, fun i hi => ?_⟩, fun b r k q => ?_⟩
  · rw [el] at hi ⊢
    have e : ((gF (M b1 0) :: hs).take 8).getD i (fun _ _ => 0) = (gF (M b1 0) :: hs).getD i (fun _ _ => 0) := by
      simp only [List.getD]
      rw [List.getElem?_take_of_lt hi]
    rw [e, up3_off (by omega)]
    cases i with
    | zero =>
      rw [show 24 + (8 - 1 - 0) = 31 by omega, hc.1, j4.row (fun k => by unfold tH; omega)]
      rfl
    | succ i =>
      rw [hc.2 _ (by omega), show 24 + (8 - 1 - (i + 1)) = 24 + (6 - i) by omega, j1 _ (by omega)]
      have := h3 i (by omega)
      rw [hl] at this
      rw [show 25 + (6 - i) = 24 + (8 - 1 - i) by omega, this]
      rfl
  · rw [up3_ne (fun e => q (Or.inr e)), hc.2 b (fun e => q (Or.inl (by omega))), j4 b r k q]
/-- a change of the reference: in a text (tx) or by itself -/
def MX (M : Mem) (g : LG) (hs : List LG) (tx : Bool) (o : Chg) (v : Int32) (M1 : Mem) : Prop := v = o.1 ∧ gF (M1 20 0) = o.2.1 ∧ RSm M1 o.2.2 ∧ HM M1 (if tx then hs else hsN g hs v) ∧ Fq tC M M1 ∧ (v = -1014 → o.2.2.length ≤ 2)
theorem MX.done {M M1 M2 : Mem} {g g2 : LG} {hs : List LG} {tx : Bool} {rs : Rs} {o : Chg} {v : Int32} (hR : RSm M rs) (hC : HM M1 (if tx then hs else (g :: hs).take 8) ∧ Fq tH M M1) (hg2 : gF (M2 20 0) = g2) (hf : Fq tA M1 M2) (hv : ¬ v < 0) (ho : o = (v, g2, rs)) : MX M g hs tx o v M2 := by
  subst ho
  refine ⟨rfl, hg2, (hR.fq hC.2 (fun b r k q => by unfold tR at q; unfold tH; omega)).fq hf (fun b r k q => by unfold tR at q; unfold tA; omega), ?_, (hC.2.mono (fun _ _ _ => Or.inl)).tr (hf.mono (fun _ _ _ q => Or.inr (Or.inr q))), fun z => absurd (show v < 0 by rw [z]; decide) hv⟩
  have e : hsN g hs v = (g :: hs).take 8 := by unfold hsN; rw [if_neg hv]
  rw [e]
  exact hC.1.fq hf (fun b r k q => by unfold tH at q; unfold tA; omega)
theorem MX.refuse {M M1 : Mem} {g : LG} {hs : List LG} {tx : Bool} {rs : Rs} {o : Chg} {v : Int32} (hg : gF (M 20 0) = g) (hH : HM M hs) (hr : RSm M1 rs ∧ Fq tR M M1) (hv : v < 0) (ho : o = (v, g, rs)) (hl : rs.length ≤ 2 := by decide) : MX M g hs tx o v M1 := by
  subst ho
  have e : hsN g hs v = hs := by unfold hsN; rw [if_pos hv]
  refine ⟨rfl, by rw [hr.2.row (fun k => by unfold tR; omega)]; exact hg, hr.1, ?_, hr.2.mono (fun _ _ _ q => Or.inr (Or.inl q)), fun _ => hl⟩
  rw [e, ite_self]
  exact hH.fq hr.2 (fun b r k q => by unfold tH at q; unfold tR; omega)
theorem MX.same {M : Mem} {g : LG} {hs : List LG} {tx : Bool} {rs : Rs} {o : Chg} {v : Int32} (hg : gF (M 20 0) = g) (hH : HM M hs) (hR : RSm M rs) (hv : v < 0 ∧ ¬ v = -1014) (ho : o = (v, g, rs)) : MX M g hs tx o v M := by
  subst ho
  have e : hsN g hs v = hs := by unfold hsN; rw [if_pos hv.1]
  exact ⟨rfl, hg, hR, by rw [e, ite_self]; exact hH, Fq.rf, fun z => absurd z hv.2⟩
theorem bringC_m {g : LG} {c : Nat} {s d v : Int32} : gu (gu (gu (gu (gu (gu (gu (gu g 14 7 v) 0 c s) 1 c d) 2 c 0) 3 c 3) 4 c 0) 5 c 0) 6 c (-1) = gu (gu (gu (gu (gu (gu (gu (gu g 0 c s) 1 c d) 2 c 0) 3 c 3) 4 c 0) 5 c 0) 6 c (-1)) 14 7 v := by
  rw [gu_comm (j := 14) (j' := 0) (by omega), gu_comm (j := 14) (j' := 1) (by omega), gu_comm (j := 14) (j' := 2) (by omega), gu_comm (j := 14) (j' := 3) (by omega), gu_comm (j := 14) (j' := 4) (by omega), gu_comm (j := 14) (j' := 5) (by omega), gu_comm (j := 14) (j' := 6) (by omega)]
theorem bringM_m {g : LG} {c : Nat} {s k d v : Int32} : gu (gu (gu (gu (gu (gu (gu (gu g 14 8 v) 7 c s) 8 c k) 9 c d) 10 c 8) 11 c 0) 12 c (-1)) 13 c 0 = gu (gu (gu (gu (gu (gu (gu (gu g 7 c s) 8 c k) 9 c d) 10 c 8) 11 c 0) 12 c (-1)) 13 c 0) 14 8 v := by
  rw [gu_comm (j := 14) (j' := 7) (by omega), gu_comm (j := 14) (j' := 8) (by omega), gu_comm (j := 14) (j' := 9) (by omega), gu_comm (j := 14) (j' := 10) (by omega), gu_comm (j := 14) (j' := 11) (by omega), gu_comm (j := 14) (j' := 12) (by omega), gu_comm (j := 14) (j' := 13) (by omega)]
theorem sitG_nor {g : LG} {c m k : Nat} (hc : c < 10) (h : nOr (g 12 k) 10) : nOr (sitG g c m 12 k) 10 := by
  unfold sitG
  rw [gu_r]
  split
  · exact Or.inr ⟨c, hc, rfl⟩
  · rw [gu_ne (by omega)]; exact h
def rm_X11_refuse : Room := { frames := 0, cells := 0, slots := 0, locals := 0 }
theorem kv_X11_refuse : KV yX11_refuse RX11 cX11_refuse 4 (some .boolean) 3 := ⟨⟨gw_244, gw_245, gw_5, gw_246⟩, by decide +kernel⟩
set_option maxRecDepth 100000 in
set_option maxHeartbeats 4000000 in
theorem c_X11_refuse_no (E : ZE) (M : Mem) (a b : Int32) : Mt E yX11_refuse cX11_refuse 4 (some .boolean) rm_X11_refuse [.ref (za E 32 0), .int 0, .int a, .int b] M (PI 0 M) := by
  refine z_met (own := RX11) (lv := [(0, .ref (za E 32 0)), (1, .int 0), (2, .int a), (3, .int b)]) (by decide) rfl (Nat.le_of_ble_eq_true rfl) rfl (fun gg X Y => ?_)
  refine z_iload_n X (pc := 0) 1 dX11_refuse_0 rfl rfl ?_
  refine z_if_eq X (pc := 1) (tgt := 23) dX11_refuse_1 (by decide) (fun c1 => ?_) (fun c1 => ?_)
  · refine z_iload_n X (pc := 23) 1 dX11_refuse_23 rfl rfl ?_
    exact z_zret X Y (by decide) dX11_refuse_24 ⟨rfl, rfl⟩
  · exact absurd (by decide) c1
set_option maxRecDepth 100000 in
set_option maxHeartbeats 4000000 in
theorem c_X11_refuse (E : ZE) (M : Mem) (a b : Int32) : Mt E yX11_refuse cX11_refuse 4 (some .boolean) rm_X11_refuse [.ref (za E 32 0), .int 1, .int a, .int b] M (RI (fun v M1 => v = 1 ∧ RSm M1 [(a, b)] ∧ Fq tR M M1)) := by
  refine z_met (own := RX11) (lv := [(0, .ref (za E 32 0)), (1, .int 1), (2, .int a), (3, .int b)]) (by decide) rfl (Nat.le_of_ble_eq_true rfl) rfl (fun gg X Y => ?_)
  refine z_iload_n X (pc := 0) 1 dX11_refuse_0 rfl rfl ?_
  refine z_if_eq X (pc := 1) (tgt := 23) dX11_refuse_1 (by decide) (fun c1 => ?_) (fun c1 => ?_)
  · exact absurd c1 (by decide)
  · refine z_aload_n X (pc := 4) 0 dX11_refuse_4 rfl rfl ?_
    refine z_get X (pc := 5) 5 zk_32_0 (zc_32_0 E _) rfl inlX11 (by decide) gw_144 rfl rfl dX11_refuse_5 ?_
    refine z_iconst X (pc := 8) (v := 0) dX11_refuse_8 (by decide) ?_
    refine z_iload_n X (pc := 9) 2 dX11_refuse_9 rfl rfl ?_
    refine z_iast X (pc := 10) (by decide) (show (0 : Int32) = nI 0 from rfl) (by decide) dX11_refuse_10 ?_
    refine z_aload_n X (pc := 11) 0 dX11_refuse_11 rfl rfl ?_
    refine z_get X (pc := 12) 6 zk_32_0 (zc_32_0 E _) rfl inlX11 (by decide) gw_145 rfl rfl dX11_refuse_12 ?_
    refine z_iconst X (pc := 15) (v := 0) dX11_refuse_15 (by decide) ?_
    refine z_iload_n X (pc := 16) 3 dX11_refuse_16 rfl rfl ?_
    refine z_iast X (pc := 17) (by decide) (show (0 : Int32) = nI 0 from rfl) (by decide) dX11_refuse_17 ?_
    refine z_aload_n X (pc := 18) 0 dX11_refuse_18 rfl rfl ?_
    refine z_iconst X (pc := 19) (v := 1) dX11_refuse_19 (by decide) ?_
    refine z_put X (pc := 20) 9 zk_32_0 (zc_32_0 E _) rfl inlX11 tyX11 tyX11_ok nmX11 (by decide) gw_247 rfl rfl (ty := .int) (by decide +kernel) rfl rfl (Nat.le_of_ble_eq_true rfl) dX11_refuse_20 rfl ?_
    refine z_iload_n X (pc := 23) 1 dX11_refuse_23 rfl rfl ?_
    exact z_zret X Y (by decide) dX11_refuse_24 ⟨_, rfl, rfl, Rm_one⟩

def rm_X11_refuseSeat : Room := { frames := 1, cells := 0, slots := 0, locals := 23 }
theorem kv_X11_refuseSeat : KV yX11_refuseSeat RX11 cX11_refuseSeat 5 (some .boolean) 4 := ⟨⟨gw_459, gw_460, gw_5, gw_461⟩, by decide +kernel⟩
set_option maxRecDepth 100000 in
set_option maxHeartbeats 4000000 in
theorem c_X11_refuseSeat_no (E : ZE) (M : Mem) (p a b : Int32) : Mt E yX11_refuseSeat cX11_refuseSeat 5 (some .boolean) rm_X11_refuseSeat [.ref (za E 32 0), .int 0, .int p, .int a, .int b] M (PI 0 M) := by
  refine z_met (own := RX11) (lv := [(0, .ref (za E 32 0)), (1, .int 0), (2, .int p), (3, .int a), (4, .int b)]) (by decide) rfl (Nat.le_of_ble_eq_true rfl) rfl (fun gg X Y => ?_)
  refine z_aload_n X (pc := 0) 0 dX11_refuseSeat_0 rfl rfl ?_
  refine z_iload_n X (pc := 1) 1 dX11_refuseSeat_1 rfl rfl ?_
  refine z_iconst X (pc := 2) (v := 2) dX11_refuseSeat_2 (by decide) ?_
  refine z_iload_n X (pc := 3) 2 dX11_refuseSeat_3 rfl rfl ?_
  refine z_callV X (pc := 4) (rest := []) kv_X11_refuse (c_X11_refuse_no E M 2 p) zk_32_0 (zc_32_0 E _) rfl rfl gw_243 (by decide) rfl rfl (Nat.le_of_ble_eq_true rfl) dX11_refuseSeat_4 (zk_i ?_)
  refine z_if_eq X (pc := 7) (tgt := 30) dX11_refuseSeat_7 (by decide) (fun c7 => ?_) (fun c7 => ?_)
  · refine z_iload_n X (pc := 30) 1 dX11_refuseSeat_30 rfl rfl ?_
    exact z_zret X Y (by decide) dX11_refuseSeat_31 ⟨rfl, rfl⟩
  · exact absurd (by decide) c7
set_option maxRecDepth 100000 in
set_option maxHeartbeats 4000000 in
theorem c_X11_refuseSeat (E : ZE) (M : Mem) (p a b : Int32) : Mt E yX11_refuseSeat cX11_refuseSeat 5 (some .boolean) rm_X11_refuseSeat [.ref (za E 32 0), .int 1, .int p, .int a, .int b] M (RI (fun v M1 => v = 1 ∧ RSm M1 [(2, p), (a, b)] ∧ Fq tR M M1)) := by
  refine z_met (own := RX11) (lv := [(0, .ref (za E 32 0)), (1, .int 1), (2, .int p), (3, .int a), (4, .int b)]) (by decide) rfl (Nat.le_of_ble_eq_true rfl) rfl (fun gg X Y => ?_)
  refine z_aload_n X (pc := 0) 0 dX11_refuseSeat_0 rfl rfl ?_
  refine z_iload_n X (pc := 1) 1 dX11_refuseSeat_1 rfl rfl ?_
  refine z_iconst X (pc := 2) (v := 2) dX11_refuseSeat_2 (by decide) ?_
  refine z_iload_n X (pc := 3) 2 dX11_refuseSeat_3 rfl rfl ?_
  refine z_callV X (pc := 4) (rest := []) kv_X11_refuse (c_X11_refuse E M 2 p) zk_32_0 (zc_32_0 E _) rfl rfl gw_243 (by decide) rfl rfl (Nat.le_of_ble_eq_true rfl) dX11_refuseSeat_4 (zk_ri (fun v_3 M_1 h_2 => ?_))
  refine z_top (y := 1) h_2.1 ?_
  refine z_if_eq X (pc := 7) (tgt := 30) dX11_refuseSeat_7 (by decide) (fun c7 => ?_) (fun c7 => ?_)
  · exact absurd c7 (by decide)
  · refine z_aload_n X (pc := 10) 0 dX11_refuseSeat_10 rfl rfl ?_
    refine z_get X (pc := 11) 5 zk_32_0 (zc_32_0 E _) rfl inlX11 (by decide) gw_144 rfl rfl dX11_refuseSeat_11 ?_
    refine z_iconst X (pc := 14) (v := 1) dX11_refuseSeat_14 (by decide) ?_
    refine z_iload_n X (pc := 15) 3 dX11_refuseSeat_15 rfl rfl ?_
    refine z_iast X (pc := 16) (by decide) (show (1 : Int32) = nI 1 from rfl) (by decide) dX11_refuseSeat_16 ?_
    refine z_aload_n X (pc := 17) 0 dX11_refuseSeat_17 rfl rfl ?_
    refine z_get X (pc := 18) 6 zk_32_0 (zc_32_0 E _) rfl inlX11 (by decide) gw_145 rfl rfl dX11_refuseSeat_18 ?_
    refine z_iconst X (pc := 21) (v := 1) dX11_refuseSeat_21 (by decide) ?_
    refine z_iload X (pc := 22) 4 dX11_refuseSeat_22 rfl ?_
    refine z_iast X (pc := 24) (by decide) (show (1 : Int32) = nI 1 from rfl) (by decide) dX11_refuseSeat_24 ?_
    refine z_aload_n X (pc := 25) 0 dX11_refuseSeat_25 rfl rfl ?_
    refine z_iconst X (pc := 26) (v := 2) dX11_refuseSeat_26 (by decide) ?_
    refine z_put X (pc := 27) 9 zk_32_0 (zc_32_0 E _) rfl inlX11 tyX11 tyX11_ok nmX11 (by decide) gw_247 rfl rfl (ty := .int) (by decide +kernel) rfl rfl (Nat.le_of_ble_eq_true rfl) dX11_refuseSeat_27 rfl ?_
    refine z_iload_n X (pc := 30) 1 dX11_refuseSeat_30 rfl rfl ?_
    exact z_zret X Y (by decide) dX11_refuseSeat_31 ⟨_, rfl, rfl, Rm_two h_2.2⟩

def rm_X11_remember : Room := { frames := 1, cells := 0, slots := 0, locals := 22 }
theorem kv_X11_remember : KV yX11_remember RX11 cX11_remember 3 none 1 := ⟨⟨gw_254, gw_255, gw_5, gw_256⟩, by decide +kernel⟩
set_option maxRecDepth 100000 in
set_option maxHeartbeats 4000000 in
theorem c_X11_remember (E : ZE) (M : Mem) (b1 : Nat) (hb1 : 20 ≤ b1 ∧ b1 ≤ 22) (hs : List LG) (hH : HM M hs)  : Mt E yX11_remember cX11_remember 3 none rm_X11_remember [.ref (za E 32 0), .ref (za E b1 0)] M (RV (fun M1 => HM M1 ((gF (M b1 0) :: hs).take 8) ∧ Fq tH M M1)) := by
  have hl8 := hH.2.1
  refine z_met (own := RX11) (lv := [(0, .ref (za E 32 0)), (1, .ref (za E b1 0))]) (by decide) rfl (Nat.le_of_ble_eq_true rfl) rfl (fun gg X Y => ?_)
  refine z_aload_n X (pc := 0) 0 dX11_remember_0 rfl rfl ?_
  refine z_get X (pc := 1) 8 zk_32_0 (zc_32_0 E _) rfl inlX11 (by decide) gw_257 rfl rfl dX11_remember_1 ?_
  refine z_top (y := (nI hs.length)) hH.1 ?_
  refine z_bipush X (pc := 4) (v := 8) dX11_remember_4 (by decide) ?_
  refine z_nicmp_ne X (pc := 6) (a := hs.length) (b := 8) (tgt := 52) dX11_remember_6 (by decide) (by omega) (by omega) (fun c6 => ?_) (fun c6 => ?_)
  · refine z_aload_n X (pc := 52) 1 dX11_remember_52 rfl rfl ?_
    refine z_aload_n X (pc := 53) 0 dX11_remember_53 rfl rfl ?_
    refine z_get X (pc := 54) 4 zk_32_0 (zc_32_0 E _) rfl inlX11 (by decide) gw_143 rfl rfl dX11_remember_54 ?_
    refine z_aload_n X (pc := 57) 0 dX11_remember_57 rfl rfl ?_
    refine z_get X (pc := 58) 8 zk_32_0 (zc_32_0 E _) rfl inlX11 (by decide) gw_257 rfl rfl dX11_remember_58 ?_
    refine z_top (y := (nI hs.length)) hH.1 ?_
    refine z_hald X (pc := 61) (j := hs.length) rfl (by omega) dX11_remember_61 ?_
    refine z_callS X (pc := 62) (rest := []) ks_X11_copyRow (c_X11_copyRow E M b1 (24 + hs.length) (by omega) (by omega) (by omega)) gw_258 (by decide) rfl rfl (Nat.le_of_ble_eq_true rfl) dX11_remember_62 (zk_rv (fun M_1 h_2 => ?_))
    refine z_aload_n X (pc := 65) 0 dX11_remember_65 rfl rfl ?_
    refine z_dup X (pc := 66) dX11_remember_66 rfl ?_
    refine z_get X (pc := 67) 8 zk_32_0 (zc_32_0 E _) rfl inlX11 (by decide) gw_257 rfl rfl dX11_remember_67 ?_
    refine z_top (y := (nI hs.length)) (by rw [h_2.2 32 (by omega)]; exact hH.1) ?_
    refine z_iconst X (pc := 70) (v := 1) dX11_remember_70 (by decide) ?_
    refine z_iadd X (pc := 71) dX11_remember_71 ?_
    refine z_put X (pc := 72) 8 zk_32_0 (zc_32_0 E _) rfl inlX11 tyX11 tyX11_ok nmX11 (by decide) gw_257 rfl rfl (ty := .int) (by decide +kernel) rfl rfl (Nat.le_of_ble_eq_true rfl) dX11_remember_72 rfl ?_
    exact z_vret X Y dX11_remember_75 ⟨rfl, HM.push hH c6 hb1 h_2 (nI_1 _)⟩
  · refine z_aload_n X (pc := 9) 0 dX11_remember_9 rfl rfl ?_
    refine z_dup X (pc := 10) dX11_remember_10 rfl ?_
    refine z_get X (pc := 11) 8 zk_32_0 (zc_32_0 E _) rfl inlX11 (by decide) gw_257 rfl rfl dX11_remember_11 ?_
    refine z_top (y := 8) (show M 32 0 8 = 8 from hH.1.trans (by rw [c6]; rfl)) ?_
    refine z_iconst X (pc := 14) (v := 1) dX11_remember_14 (by decide) ?_
    refine z_isub X (pc := 15) dX11_remember_15 ?_
    refine z_top (y := 7) (by decide) ?_
    refine z_put X (pc := 16) 8 zk_32_0 (zc_32_0 E _) rfl inlX11 tyX11 tyX11_ok nmX11 (by decide) gw_257 rfl rfl (ty := .int) (by decide +kernel) rfl rfl (Nat.le_of_ble_eq_true rfl) dX11_remember_16 rfl ?_
    refine z_iconst X (pc := 19) (v := 0) dX11_remember_19 (by decide) ?_
    refine z_istore_n X (pc := 20) (lv1 := [(2, .int 0), (0, .ref (za E 32 0)), (1, .ref (za E b1 0))]) dX11_remember_20 rfl (by decide) rfl ?_
    refine z_sub (lv' := [(2, .int (nI 0)), (0, .ref (za E 32 0)), (1, .ref (za E b1 0))]) [0, 1, 2] rfl ?_
    refine z_loop (7) 21 (σ := Mem) (fun k s => ShJ M k s) (fun k s => (s, [(2, .int (nI k)), (0, .ref (za E 32 0)), (1, .ref (za E b1 0))])) ?_ 0 (up3 M 32 0 8 7) (Nat.zero_le _) ShJ.init
    intro k s hi21 hJ21 ih21
    obtain ⟨M1, rfl⟩ : ∃ z, z = s := ⟨s, rfl⟩
    show Z gg E M1 [(2, .int (nI k)), (0, .ref (za E 32 0)), (1, .ref (za E b1 0))] 21 []
    replace hJ21 : ShJ M k M1 := hJ21
    refine z_iload_n X (pc := 21) 0 dX11_remember_21 rfl rfl ?_
    refine z_aload_n X (pc := 22) 1 dX11_remember_22 rfl rfl ?_
    refine z_get X (pc := 23) 8 zk_32_0 (zc_32_0 E _) rfl inlX11 (by decide) gw_257 rfl rfl dX11_remember_23 ?_
    refine z_top (y := (nI 7)) (show M1 32 0 8 = nI 7 from hJ21.2.2.1) ?_
    refine z_nicmp_ge X (pc := 26) (a := k) (b := 7) (tgt := 52) dX11_remember_26 (by decide) (by omega) (by omega) (fun c26 => ?_) (fun c26 => ?_)
    · refine z_aload_n X (pc := 52) 2 dX11_remember_52 rfl rfl ?_
      refine z_aload_n X (pc := 53) 1 dX11_remember_53 rfl rfl ?_
      refine z_get X (pc := 54) 4 zk_32_0 (zc_32_0 E _) rfl inlX11 (by decide) gw_143 rfl rfl dX11_remember_54 ?_
      refine z_aload_n X (pc := 57) 1 dX11_remember_57 rfl rfl ?_
      refine z_get X (pc := 58) 8 zk_32_0 (zc_32_0 E _) rfl inlX11 (by decide) gw_257 rfl rfl dX11_remember_58 ?_
      refine z_top (y := (nI 7)) (show M1 32 0 8 = nI 7 from hJ21.2.2.1) ?_
      refine z_hald X (pc := 61) (j := 7) rfl (by omega) dX11_remember_61 ?_
      refine z_callS X (pc := 62) (rest := []) ks_X11_copyRow (c_X11_copyRow E M1 b1 31 (by omega) (by omega) (by omega)) gw_258 (by decide) rfl rfl (Nat.le_of_ble_eq_true rfl) dX11_remember_62 (zk_rv (fun M_3 h_4 => ?_))
      refine z_aload_n X (pc := 65) 1 dX11_remember_65 rfl rfl ?_
      refine z_dup X (pc := 66) dX11_remember_66 rfl ?_
      refine z_get X (pc := 67) 8 zk_32_0 (zc_32_0 E _) rfl inlX11 (by decide) gw_257 rfl rfl dX11_remember_67 ?_
      refine z_top (y := (nI 7)) (show M_3 32 0 8 = nI 7 from by rw [h_4.2 32 (by decide)]; exact hJ21.2.2.1) ?_
      refine z_iconst X (pc := 70) (v := 1) dX11_remember_70 (by decide) ?_
      refine z_iadd X (pc := 71) dX11_remember_71 ?_
      refine z_top (y := 8) (by decide) ?_
      refine z_put X (pc := 72) 8 zk_32_0 (zc_32_0 E _) rfl inlX11 tyX11 tyX11_ok nmX11 (by decide) gw_257 rfl rfl (ty := .int) (by decide +kernel) rfl rfl (Nat.le_of_ble_eq_true rfl) dX11_remember_72 rfl ?_
      exact z_vret X Y dX11_remember_75 ⟨rfl, HM.full hH c6 hb1 (by rw [show 7 = k by omega]; exact hJ21) h_4 rfl⟩
    · refine z_aload_n X (pc := 29) 1 dX11_remember_29 rfl rfl ?_
      refine z_get X (pc := 30) 4 zk_32_0 (zc_32_0 E _) rfl inlX11 (by decide) gw_143 rfl rfl dX11_remember_30 ?_
      refine z_iload_n X (pc := 33) 0 dX11_remember_33 rfl rfl ?_
      refine z_iconst X (pc := 34) (v := 1) dX11_remember_34 (by decide) ?_
      refine z_iadd X (pc := 35) dX11_remember_35 ?_
      refine z_hald X (pc := 36) (j := k + 1) (nI_1 _) (by omega) dX11_remember_36 ?_
      refine z_aload_n X (pc := 37) 1 dX11_remember_37 rfl rfl ?_
      refine z_get X (pc := 38) 4 zk_32_0 (zc_32_0 E _) rfl inlX11 (by decide) gw_143 rfl rfl dX11_remember_38 ?_
      refine z_iload_n X (pc := 41) 0 dX11_remember_41 rfl rfl ?_
      refine z_hald X (pc := 42) (j := k) rfl (by omega) dX11_remember_42 ?_
      refine z_callS X (pc := 43) (rest := []) ks_X11_copyRow (c_X11_copyRow E M1 (24 + (k + 1)) (24 + k) (by omega) (by omega) (by omega)) gw_258 (by decide) rfl rfl (Nat.le_of_ble_eq_true rfl) dX11_remember_43 (zk_rv (fun M_5 h_6 => ?_))
      refine z_iinc X (pc := 46) (v := (nI (k + 1))) (lv1 := [(2, .int (nI (k + 1))), (0, .ref (za E 32 0)), (1, .ref (za E b1 0))]) 0 dX11_remember_46 rfl (nI_1 _) (by decide) rfl ?_
      refine z_goto X (pc := 49) (tgt := 21) dX11_remember_49 (by decide) ?_
      refine z_sub (lv' := [(2, .int (nI (k + 1))), (0, .ref (za E 32 0)), (1, .ref (za E b1 0))]) [0, 1, 2] rfl ?_
      exact ih21 M_5 (by omega) (hJ21.go (by omega) h_6)

def rm_X11_change : Room := { frames := 2, cells := 0, slots := 0, locals := 44 }
theorem kv_X11_change : KV yX11_change RX11 cX11_change 1 none 0 := ⟨⟨gw_249, gw_250, gw_5, gw_251⟩, by decide +kernel⟩
set_option maxRecDepth 100000 in
set_option maxHeartbeats 4000000 in
theorem c_X11_change (E : ZE) (M : Mem) (g : LG) (hg : gF (M 20 0) = g) (hs : List LG) (hH : HM M hs) (tx : Bool) (htx : M 32 0 11 = zb tx) : Mt E yX11_change cX11_change 1 none rm_X11_change [.ref (za E 32 0)] M (RV (fun M1 => HM M1 (if tx then hs else (g :: hs).take 8) ∧ Fq tH M M1)) := by
  refine z_met (own := RX11) (lv := [(0, .ref (za E 32 0))]) (by decide) rfl (Nat.le_of_ble_eq_true rfl) rfl (fun gg X Y => ?_)
  refine z_aload_n X (pc := 0) 0 dX11_change_0 rfl rfl ?_
  refine z_get X (pc := 1) 11 zk_32_0 (zc_32_0 E _) rfl inlX11 (by decide) gw_252 rfl rfl dX11_change_1 ?_
  refine z_top (y := (zb tx)) htx ?_
  refine z_bif_ne X (pc := 4) (tgt := 15) dX11_change_4 (by decide) (fun c4 => ?_) (fun c4 => ?_)
  · exact z_vret X Y dX11_change_15 ⟨rfl, by simpa [c4] using hH, Fq.rf⟩
  · refine z_aload_n X (pc := 7) 0 dX11_change_7 rfl rfl ?_
    refine z_aload_n X (pc := 8) 0 dX11_change_8 rfl rfl ?_
    refine z_get X (pc := 9) 0 zk_32_0 (zc_32_0 E _) rfl inlX11 (by decide) gw_138 rfl rfl dX11_change_9 ?_
    refine z_callV X (pc := 12) (rest := []) kv_X11_remember (c_X11_remember E M 20 (by decide) hs hH) zk_32_0 (zc_32_0 E _) rfl rfl gw_253 (by decide) rfl rfl (Nat.le_of_ble_eq_true rfl) dX11_change_12 (zk_rv (fun M_1 h_2 => ?_))
    exact z_vret X Y dX11_change_15 ⟨rfl, by rw [← hg]; simpa [c4] using h_2⟩

def rm_X11_chair : Room := { frames := 3, cells := 0, slots := 0, locals := 64 }
theorem kv_X11_chair : KV yX11_chair RX11 cX11_chair 4 (some .int) 2 := ⟨⟨gw_237, gw_238, gw_5, gw_239⟩, by decide +kernel⟩
set_option maxRecDepth 100000 in
set_option maxHeartbeats 4000000 in
theorem c_X11_chair (E : ZE) (M : Mem) (g : LG) (hg : gF (M 20 0) = g) (nc nm n : Nat) (hI : Inv g nc nm n) (rs : Rs) (hR : RSm M rs) (hs : List LG) (hH : HM M hs) (tx : Bool) (htx : M 32 0 11 = zb tx) (x y : Int32) : Mt E yX11_chair cX11_chair 4 (some .int) rm_X11_chair [.ref (za E 32 0), .int x, .int y] M (RI (fun v0 M1 => MX M g hs tx (oBringC g rs x y) v0 M1)) := by
  have hnc := hI.nc; have hnm := hI.nm; have hn := hI.c10; have hn2 := hI.m10
  refine z_met (own := RX11) (lv := [(0, .ref (za E 32 0)), (1, .int x), (2, .int y)]) (by decide) rfl (Nat.le_of_ble_eq_true rfl) rfl (fun gg X Y => ?_)
  refine z_iload_n X (pc := 0) 1 dX11_chair_0 rfl rfl ?_
  refine z_iconst X (pc := 1) (v := 0) dX11_chair_1 (by decide) ?_
  refine z_iconst X (pc := 2) (v := 3) dX11_chair_2 (by decide) ?_
  refine z_callS X (pc := 3) (rest := []) ks_X11_isBetween (c_X11_isBetween E M x 0 3) gw_240 (by decide) rfl rfl (Nat.le_of_ble_eq_true rfl) dX11_chair_3 (zk_i ?_)
  refine z_bif_eq X (pc := 6) (tgt := 19) dX11_chair_6 (by decide) (fun c6 => ?_) (fun c6 => ?_)
  · refine z_sipush X (pc := 19) (v := (-1012)) dX11_chair_19 (by decide) ?_
    exact z_iret X Y dX11_chair_22 ⟨_, rfl, MX.same hg hH hR (by decide) (by simp [oBringC, hI.cNe, hI.mNe, gu_r, c6])⟩
  · refine z_iload_n X (pc := 9) 2 dX11_chair_9 rfl rfl ?_
    refine z_iconst X (pc := 10) (v := 1) dX11_chair_10 (by decide) ?_
    refine z_bipush X (pc := 11) (v := 9) dX11_chair_11 (by decide) ?_
    refine z_callS X (pc := 13) (rest := []) ks_X11_isBetween (c_X11_isBetween E M y 1 9) gw_240 (by decide) rfl rfl (Nat.le_of_ble_eq_true rfl) dX11_chair_13 (zk_i ?_)
    refine z_bif_ne X (pc := 16) (tgt := 23) dX11_chair_16 (by decide) (fun c16 => ?_) (fun c16 => ?_)
    · refine z_aload_n X (pc := 23) 0 dX11_chair_23 rfl rfl ?_
      refine z_aload_n X (pc := 24) 0 dX11_chair_24 rfl rfl ?_
      refine z_get X (pc := 25) 0 zk_32_0 (zc_32_0 E _) rfl inlX11 (by decide) gw_138 rfl rfl dX11_chair_25 ?_
      refine z_bipush X (pc := 28) (v := 7) dX11_chair_28 (by decide) ?_
      refine z_iald X (pc := 30) (by decide) (show (7 : Int32) = nI 7 from rfl) (by decide) dX11_chair_30 ?_
      refine z_top (y := (nI nc)) ((SF.bk (SF.rf hg) (by decide)).trans hnc) ?_
      refine z_bipush X (pc := 31) (v := 10) dX11_chair_31 (by decide) ?_
      refine z_nicmp_ne X (pc := 33) (a := nc) (b := 10) (tgt := 40) dX11_chair_33 (by decide) (by omega) (by omega) (fun c33 => ?_) (fun c33 => ?_)
      · refine z_iconst X (pc := 40) (v := 0) dX11_chair_40 (by decide) ?_
        refine z_iconst X (pc := 41) (v := 1) dX11_chair_41 (by decide) ?_
        refine z_bipush X (pc := 42) (v := 10) dX11_chair_42 (by decide) ?_
        refine z_callV X (pc := 44) (rest := []) kv_X11_refuse (c_X11_refuse_no E M 1 10) zk_32_0 (zc_32_0 E _) rfl rfl gw_243 (by decide) rfl rfl (Nat.le_of_ble_eq_true rfl) dX11_chair_44 (zk_i ?_)
        refine z_if_eq X (pc := 47) (tgt := 54) dX11_chair_47 (by decide) (fun c47 => ?_) (fun c47 => ?_)
        · refine z_aload_n X (pc := 54) 0 dX11_chair_54 rfl rfl ?_
          refine z_callV X (pc := 55) (rest := []) kv_X11_change (c_X11_change E M g (And.left (SF.rf hg)) hs hH tx htx) zk_32_0 (zc_32_0 E _) rfl rfl gw_248 (by decide) rfl rfl (Nat.le_of_ble_eq_true rfl) dX11_chair_55 (zk_rv (fun M_1 hC_2 => ?_))
          refine z_aload_n X (pc := 58) 0 dX11_chair_58 rfl rfl ?_
          refine z_get X (pc := 59) 0 zk_32_0 (zc_32_0 E _) rfl inlX11 (by decide) gw_138 rfl rfl dX11_chair_59 ?_
          refine z_bipush X (pc := 62) (v := 7) dX11_chair_62 (by decide) ?_
          refine z_iald X (pc := 64) (by decide) (show (7 : Int32) = nI 7 from rfl) (by decide) dX11_chair_64 ?_
          refine z_top (y := (nI nc)) ((SF.bk (SF.rf (hC_2.2.g20 hg)) (by decide)).trans hnc) ?_
          refine z_istore_n X (pc := 65) (lv1 := [(3, .int (nI nc)), (0, .ref (za E 32 0)), (1, .int x), (2, .int y)]) dX11_chair_65 rfl (by decide) rfl ?_
          refine z_aload_n X (pc := 66) 1 dX11_chair_66 rfl rfl ?_
          refine z_get X (pc := 67) 0 zk_32_0 (zc_32_0 E _) rfl inlX11 (by decide) gw_138 rfl rfl dX11_chair_67 ?_
          refine z_bipush X (pc := 70) (v := 7) dX11_chair_70 (by decide) ?_
          refine z_dup2 X (pc := 72) dX11_chair_72 rfl rfl ?_
          refine z_iald X (pc := 73) (by decide) (show (7 : Int32) = nI 7 from rfl) (by decide) dX11_chair_73 ?_
          refine z_top (y := (nI nc)) ((SF.bk (SF.rf (hC_2.2.g20 hg)) (by decide)).trans hnc) ?_
          refine z_iconst X (pc := 74) (v := 1) dX11_chair_74 (by decide) ?_
          refine z_iadd X (pc := 75) dX11_chair_75 ?_
          refine z_top (y := (nI (nc + 1))) (nI_1 _) ?_
          refine z_iast X (pc := 76) (by decide) (show (7 : Int32) = nI 7 from rfl) (by decide) dX11_chair_76 ?_
          refine z_gen (SF.pbk (SF.rf (hC_2.2.g20 hg)) (by decide)) (fun M_3 hS_4 => ?_)
          refine z_aload_n X (pc := 77) 1 dX11_chair_77 rfl rfl ?_
          refine z_iload_n X (pc := 78) 0 dX11_chair_78 rfl rfl ?_
          refine z_iconst X (pc := 79) (v := 0) dX11_chair_79 (by decide) ?_
          refine z_iload_n X (pc := 80) 2 dX11_chair_80 rfl rfl ?_
          refine z_callV X (pc := 81) (rest := []) kv_X11_putChair (c_X11_putChair E M_3 (gu g 14 7 (nI (nc + 1))) (And.left hS_4) nc 0 x (show nc < 10 by omega) (by decide)) zk_32_0 (zc_32_0 E _) rfl rfl gw_261 (by decide) rfl rfl (Nat.le_of_ble_eq_true rfl) dX11_chair_81 (zk_rv (fun M_5 hS_6 => ?_))
          refine z_aload_n X (pc := 84) 1 dX11_chair_84 rfl rfl ?_
          refine z_iload_n X (pc := 85) 0 dX11_chair_85 rfl rfl ?_
          refine z_iconst X (pc := 86) (v := 1) dX11_chair_86 (by decide) ?_
          refine z_iload_n X (pc := 87) 3 dX11_chair_87 rfl rfl ?_
          refine z_callV X (pc := 88) (rest := []) kv_X11_putChair (c_X11_putChair E M_5 (gu (gu g 14 7 (nI (nc + 1))) 0 nc x) (And.left (hS_4.trans hS_6)) nc 1 y (show nc < 10 by omega) (by decide)) zk_32_0 (zc_32_0 E _) rfl rfl gw_261 (by decide) rfl rfl (Nat.le_of_ble_eq_true rfl) dX11_chair_88 (zk_rv (fun M_7 hS_8 => ?_))
          refine z_aload_n X (pc := 91) 1 dX11_chair_91 rfl rfl ?_
          refine z_iload_n X (pc := 92) 0 dX11_chair_92 rfl rfl ?_
          refine z_iconst X (pc := 93) (v := 2) dX11_chair_93 (by decide) ?_
          refine z_iconst X (pc := 94) (v := 0) dX11_chair_94 (by decide) ?_
          refine z_callV X (pc := 95) (rest := []) kv_X11_putChair (c_X11_putChair E M_7 (gu (gu (gu g 14 7 (nI (nc + 1))) 0 nc x) 1 nc y) (And.left ((hS_4.trans hS_6).trans hS_8)) nc 2 0 (show nc < 10 by omega) (by decide)) zk_32_0 (zc_32_0 E _) rfl rfl gw_261 (by decide) rfl rfl (Nat.le_of_ble_eq_true rfl) dX11_chair_95 (zk_rv (fun M_9 hS_10 => ?_))
          refine z_aload_n X (pc := 98) 1 dX11_chair_98 rfl rfl ?_
          refine z_iload_n X (pc := 99) 0 dX11_chair_99 rfl rfl ?_
          refine z_iconst X (pc := 100) (v := 3) dX11_chair_100 (by decide) ?_
          refine z_iconst X (pc := 101) (v := 3) dX11_chair_101 (by decide) ?_
          refine z_callV X (pc := 102) (rest := []) kv_X11_putChair (c_X11_putChair E M_9 (gu (gu (gu (gu g 14 7 (nI (nc + 1))) 0 nc x) 1 nc y) 2 nc 0) (And.left (((hS_4.trans hS_6).trans hS_8).trans hS_10)) nc 3 3 (show nc < 10 by omega) (by decide)) zk_32_0 (zc_32_0 E _) rfl rfl gw_261 (by decide) rfl rfl (Nat.le_of_ble_eq_true rfl) dX11_chair_102 (zk_rv (fun M_11 hS_12 => ?_))
          refine z_aload_n X (pc := 105) 1 dX11_chair_105 rfl rfl ?_
          refine z_iload_n X (pc := 106) 0 dX11_chair_106 rfl rfl ?_
          refine z_iconst X (pc := 107) (v := 4) dX11_chair_107 (by decide) ?_
          refine z_iconst X (pc := 108) (v := 0) dX11_chair_108 (by decide) ?_
          refine z_callV X (pc := 109) (rest := []) kv_X11_putChair (c_X11_putChair E M_11 (gu (gu (gu (gu (gu g 14 7 (nI (nc + 1))) 0 nc x) 1 nc y) 2 nc 0) 3 nc 3) (And.left ((((hS_4.trans hS_6).trans hS_8).trans hS_10).trans hS_12)) nc 4 0 (show nc < 10 by omega) (by decide)) zk_32_0 (zc_32_0 E _) rfl rfl gw_261 (by decide) rfl rfl (Nat.le_of_ble_eq_true rfl) dX11_chair_109 (zk_rv (fun M_13 hS_14 => ?_))
          refine z_aload_n X (pc := 112) 1 dX11_chair_112 rfl rfl ?_
          refine z_iload_n X (pc := 113) 0 dX11_chair_113 rfl rfl ?_
          refine z_iconst X (pc := 114) (v := 5) dX11_chair_114 (by decide) ?_
          refine z_iconst X (pc := 115) (v := 0) dX11_chair_115 (by decide) ?_
          refine z_callV X (pc := 116) (rest := []) kv_X11_putChair (c_X11_putChair E M_13 (gu (gu (gu (gu (gu (gu g 14 7 (nI (nc + 1))) 0 nc x) 1 nc y) 2 nc 0) 3 nc 3) 4 nc 0) (And.left (((((hS_4.trans hS_6).trans hS_8).trans hS_10).trans hS_12).trans hS_14)) nc 5 0 (show nc < 10 by omega) (by decide)) zk_32_0 (zc_32_0 E _) rfl rfl gw_261 (by decide) rfl rfl (Nat.le_of_ble_eq_true rfl) dX11_chair_116 (zk_rv (fun M_15 hS_16 => ?_))
          refine z_aload_n X (pc := 119) 1 dX11_chair_119 rfl rfl ?_
          refine z_iload_n X (pc := 120) 0 dX11_chair_120 rfl rfl ?_
          refine z_bipush X (pc := 121) (v := 6) dX11_chair_121 (by decide) ?_
          refine z_iconst X (pc := 123) (v := (-1)) dX11_chair_123 (by decide) ?_
          refine z_callV X (pc := 124) (rest := []) kv_X11_putChair (c_X11_putChair E M_15 (gu (gu (gu (gu (gu (gu (gu g 14 7 (nI (nc + 1))) 0 nc x) 1 nc y) 2 nc 0) 3 nc 3) 4 nc 0) 5 nc 0) (And.left ((((((hS_4.trans hS_6).trans hS_8).trans hS_10).trans hS_12).trans hS_14).trans hS_16)) nc 6 ((-1)) (show nc < 10 by omega) (by decide)) zk_32_0 (zc_32_0 E _) rfl rfl gw_261 (by decide) rfl rfl (Nat.le_of_ble_eq_true rfl) dX11_chair_124 (zk_rv (fun M_17 hS_18 => ?_))
          refine z_iload_n X (pc := 127) 0 dX11_chair_127 rfl rfl ?_
          exact z_iret X Y dX11_chair_128 ⟨_, rfl, MX.done hR hC_2 (And.left (((((((hS_4.trans hS_6).trans hS_8).trans hS_10).trans hS_12).trans hS_14).trans hS_16).trans hS_18)) (SF.fq (((((((hS_4.trans hS_6).trans hS_8).trans hS_10).trans hS_12).trans hS_14).trans hS_16).trans hS_18)) (nI_pos (by omega)) (by have hq : ¬ 10 ≤ nc := (by omega); rw [bringC_m]; simp [bringC, oBringC, hI.cNe, hI.mNe, hq, c6, c16, c47])⟩
        · exact absurd (by decide) c47
      · refine z_iconst X (pc := 36) (v := 1) dX11_chair_36 (by decide) ?_
        refine z_goto X (pc := 37) (tgt := 41) dX11_chair_37 (by decide) ?_
        refine z_iconst X (pc := 41) (v := 1) dX11_chair_41 (by decide) ?_
        refine z_bipush X (pc := 42) (v := 10) dX11_chair_42 (by decide) ?_
        refine z_callV X (pc := 44) (rest := []) kv_X11_refuse (c_X11_refuse E M 1 10) zk_32_0 (zc_32_0 E _) rfl rfl gw_243 (by decide) rfl rfl (Nat.le_of_ble_eq_true rfl) dX11_chair_44 (zk_ri (fun v_21 M_19 h_20 => ?_))
        refine z_top (y := 1) h_20.1 ?_
        refine z_if_eq X (pc := 47) (tgt := 54) dX11_chair_47 (by decide) (fun c47 => ?_) (fun c47 => ?_)
        · exact absurd c47 (by decide)
        · refine z_sipush X (pc := 50) (v := (-1014)) dX11_chair_50 (by decide) ?_
          exact z_iret X Y dX11_chair_53 ⟨_, rfl, MX.refuse (rs := [(1, 10)]) hg hH h_20.2 (by decide) (by have hq : 10 ≤ nc := (by omega); have hq2 : nI nc = 10 := (by rw [c33]; rfl); simp [oBringC, hI.cNe, hI.mNe, hq, hq2, c6, c16, c47]) (Nat.le_of_ble_eq_true rfl)⟩
    · refine z_sipush X (pc := 19) (v := (-1012)) dX11_chair_19 (by decide) ?_
      exact z_iret X Y dX11_chair_22 ⟨_, rfl, MX.same hg hH hR (by decide) (by simp [oBringC, hI.cNe, hI.mNe, gu_r, c6, c16])⟩

def rm_X11_musician : Room := { frames := 3, cells := 0, slots := 0, locals := 64 }
theorem kv_X11_musician : KV yX11_musician RX11 cX11_musician 5 (some .int) 3 := ⟨⟨gw_281, gw_282, gw_5, gw_283⟩, by decide +kernel⟩
set_option maxRecDepth 100000 in
set_option maxHeartbeats 4000000 in
theorem c_X11_musician (E : ZE) (M : Mem) (g : LG) (hg : gF (M 20 0) = g) (nc nm n : Nat) (hI : Inv g nc nm n) (rs : Rs) (hR : RSm M rs) (hs : List LG) (hH : HM M hs) (tx : Bool) (htx : M 32 0 11 = zb tx) (x y z : Int32) : Mt E yX11_musician cX11_musician 5 (some .int) rm_X11_musician [.ref (za E 32 0), .int x, .int y, .int z] M (RI (fun v0 M1 => MX M g hs tx (oBringM g rs x y z) v0 M1)) := by
  have hnc := hI.nc; have hnm := hI.nm; have hn := hI.c10; have hn2 := hI.m10
  refine z_met (own := RX11) (lv := [(0, .ref (za E 32 0)), (1, .int x), (2, .int y), (3, .int z)]) (by decide) rfl (Nat.le_of_ble_eq_true rfl) rfl (fun gg X Y => ?_)
  refine z_iload_n X (pc := 0) 1 dX11_musician_0 rfl rfl ?_
  refine z_iconst X (pc := 1) (v := 0) dX11_musician_1 (by decide) ?_
  refine z_iconst X (pc := 2) (v := 3) dX11_musician_2 (by decide) ?_
  refine z_callS X (pc := 3) (rest := []) ks_X11_isBetween (c_X11_isBetween E M x 0 3) gw_240 (by decide) rfl rfl (Nat.le_of_ble_eq_true rfl) dX11_musician_3 (zk_i ?_)
  refine z_bif_eq X (pc := 6) (tgt := 29) dX11_musician_6 (by decide) (fun c6 => ?_) (fun c6 => ?_)
  · refine z_sipush X (pc := 29) (v := (-1012)) dX11_musician_29 (by decide) ?_
    exact z_iret X Y dX11_musician_32 ⟨_, rfl, MX.same hg hH hR (by decide) (by simp [oBringM, hI.cNe, hI.mNe, gu_r, c6])⟩
  · refine z_iload_n X (pc := 9) 2 dX11_musician_9 rfl rfl ?_
    refine z_iconst X (pc := 10) (v := 1) dX11_musician_10 (by decide) ?_
    refine z_bipush X (pc := 11) (v := 9) dX11_musician_11 (by decide) ?_
    refine z_callS X (pc := 13) (rest := []) ks_X11_isBetween (c_X11_isBetween E M y 1 9) gw_240 (by decide) rfl rfl (Nat.le_of_ble_eq_true rfl) dX11_musician_13 (zk_i ?_)
    refine z_bif_eq X (pc := 16) (tgt := 29) dX11_musician_16 (by decide) (fun c16 => ?_) (fun c16 => ?_)
    · refine z_sipush X (pc := 29) (v := (-1012)) dX11_musician_29 (by decide) ?_
      exact z_iret X Y dX11_musician_32 ⟨_, rfl, MX.same hg hH hR (by decide) (by simp [oBringM, hI.cNe, hI.mNe, gu_r, c6, c16])⟩
    · refine z_iload_n X (pc := 19) 3 dX11_musician_19 rfl rfl ?_
      refine z_iconst X (pc := 20) (v := 0) dX11_musician_20 (by decide) ?_
      refine z_bipush X (pc := 21) (v := 9) dX11_musician_21 (by decide) ?_
      refine z_callS X (pc := 23) (rest := []) ks_X11_isBetween (c_X11_isBetween E M z 0 9) gw_240 (by decide) rfl rfl (Nat.le_of_ble_eq_true rfl) dX11_musician_23 (zk_i ?_)
      refine z_bif_ne X (pc := 26) (tgt := 33) dX11_musician_26 (by decide) (fun c26 => ?_) (fun c26 => ?_)
      · refine z_aload_n X (pc := 33) 0 dX11_musician_33 rfl rfl ?_
        refine z_aload_n X (pc := 34) 0 dX11_musician_34 rfl rfl ?_
        refine z_get X (pc := 35) 0 zk_32_0 (zc_32_0 E _) rfl inlX11 (by decide) gw_138 rfl rfl dX11_musician_35 ?_
        refine z_bipush X (pc := 38) (v := 8) dX11_musician_38 (by decide) ?_
        refine z_iald X (pc := 40) (by decide) (show (8 : Int32) = nI 8 from rfl) (by decide) dX11_musician_40 ?_
        refine z_top (y := (nI nm)) ((SF.bk (SF.rf hg) (by decide)).trans hnm) ?_
        refine z_bipush X (pc := 41) (v := 10) dX11_musician_41 (by decide) ?_
        refine z_nicmp_ne X (pc := 43) (a := nm) (b := 10) (tgt := 50) dX11_musician_43 (by decide) (by omega) (by omega) (fun c43 => ?_) (fun c43 => ?_)
        · refine z_iconst X (pc := 50) (v := 0) dX11_musician_50 (by decide) ?_
          refine z_iconst X (pc := 51) (v := 1) dX11_musician_51 (by decide) ?_
          refine z_bipush X (pc := 52) (v := 10) dX11_musician_52 (by decide) ?_
          refine z_callV X (pc := 54) (rest := []) kv_X11_refuse (c_X11_refuse_no E M 1 10) zk_32_0 (zc_32_0 E _) rfl rfl gw_243 (by decide) rfl rfl (Nat.le_of_ble_eq_true rfl) dX11_musician_54 (zk_i ?_)
          refine z_if_eq X (pc := 57) (tgt := 64) dX11_musician_57 (by decide) (fun c57 => ?_) (fun c57 => ?_)
          · refine z_aload_n X (pc := 64) 0 dX11_musician_64 rfl rfl ?_
            refine z_callV X (pc := 65) (rest := []) kv_X11_change (c_X11_change E M g (And.left (SF.rf hg)) hs hH tx htx) zk_32_0 (zc_32_0 E _) rfl rfl gw_248 (by decide) rfl rfl (Nat.le_of_ble_eq_true rfl) dX11_musician_65 (zk_rv (fun M_1 hC_2 => ?_))
            refine z_aload_n X (pc := 68) 0 dX11_musician_68 rfl rfl ?_
            refine z_get X (pc := 69) 0 zk_32_0 (zc_32_0 E _) rfl inlX11 (by decide) gw_138 rfl rfl dX11_musician_69 ?_
            refine z_bipush X (pc := 72) (v := 8) dX11_musician_72 (by decide) ?_
            refine z_iald X (pc := 74) (by decide) (show (8 : Int32) = nI 8 from rfl) (by decide) dX11_musician_74 ?_
            refine z_top (y := (nI nm)) ((SF.bk (SF.rf (hC_2.2.g20 hg)) (by decide)).trans hnm) ?_
            refine z_istore X (pc := 75) (lv1 := [(4, .int (nI nm)), (0, .ref (za E 32 0)), (1, .int x), (2, .int y), (3, .int z)]) dX11_musician_75 (by decide) rfl ?_
            refine z_aload_n X (pc := 77) 1 dX11_musician_77 rfl rfl ?_
            refine z_get X (pc := 78) 0 zk_32_0 (zc_32_0 E _) rfl inlX11 (by decide) gw_138 rfl rfl dX11_musician_78 ?_
            refine z_bipush X (pc := 81) (v := 8) dX11_musician_81 (by decide) ?_
            refine z_dup2 X (pc := 83) dX11_musician_83 rfl rfl ?_
            refine z_iald X (pc := 84) (by decide) (show (8 : Int32) = nI 8 from rfl) (by decide) dX11_musician_84 ?_
            refine z_top (y := (nI nm)) ((SF.bk (SF.rf (hC_2.2.g20 hg)) (by decide)).trans hnm) ?_
            refine z_iconst X (pc := 85) (v := 1) dX11_musician_85 (by decide) ?_
            refine z_iadd X (pc := 86) dX11_musician_86 ?_
            refine z_top (y := (nI (nm + 1))) (nI_1 _) ?_
            refine z_iast X (pc := 87) (by decide) (show (8 : Int32) = nI 8 from rfl) (by decide) dX11_musician_87 ?_
            refine z_gen (SF.pbk (SF.rf (hC_2.2.g20 hg)) (by decide)) (fun M_3 hS_4 => ?_)
            refine z_aload_n X (pc := 88) 1 dX11_musician_88 rfl rfl ?_
            refine z_iload X (pc := 89) 0 dX11_musician_89 rfl ?_
            refine z_iconst X (pc := 91) (v := 0) dX11_musician_91 (by decide) ?_
            refine z_iload_n X (pc := 92) 2 dX11_musician_92 rfl rfl ?_
            refine z_callV X (pc := 93) (rest := []) kv_X11_put (c_X11_put E M_3 (gu g 14 8 (nI (nm + 1))) (And.left hS_4) nm 0 x (show nm < 10 by omega) (by decide)) zk_32_0 (zc_32_0 E _) rfl rfl gw_284 (by decide) rfl rfl (Nat.le_of_ble_eq_true rfl) dX11_musician_93 (zk_rv (fun M_5 hS_6 => ?_))
            refine z_aload_n X (pc := 96) 1 dX11_musician_96 rfl rfl ?_
            refine z_iload X (pc := 97) 0 dX11_musician_97 rfl ?_
            refine z_iconst X (pc := 99) (v := 1) dX11_musician_99 (by decide) ?_
            refine z_iload_n X (pc := 100) 3 dX11_musician_100 rfl rfl ?_
            refine z_callV X (pc := 101) (rest := []) kv_X11_put (c_X11_put E M_5 (gu (gu g 14 8 (nI (nm + 1))) 7 nm x) (And.left (hS_4.trans hS_6)) nm 1 y (show nm < 10 by omega) (by decide)) zk_32_0 (zc_32_0 E _) rfl rfl gw_284 (by decide) rfl rfl (Nat.le_of_ble_eq_true rfl) dX11_musician_101 (zk_rv (fun M_7 hS_8 => ?_))
            refine z_aload_n X (pc := 104) 1 dX11_musician_104 rfl rfl ?_
            refine z_iload X (pc := 105) 0 dX11_musician_105 rfl ?_
            refine z_iconst X (pc := 107) (v := 2) dX11_musician_107 (by decide) ?_
            refine z_iload_n X (pc := 108) 4 dX11_musician_108 rfl rfl ?_
            refine z_callV X (pc := 109) (rest := []) kv_X11_put (c_X11_put E M_7 (gu (gu (gu g 14 8 (nI (nm + 1))) 7 nm x) 8 nm y) (And.left ((hS_4.trans hS_6).trans hS_8)) nm 2 z (show nm < 10 by omega) (by decide)) zk_32_0 (zc_32_0 E _) rfl rfl gw_284 (by decide) rfl rfl (Nat.le_of_ble_eq_true rfl) dX11_musician_109 (zk_rv (fun M_9 hS_10 => ?_))
            refine z_aload_n X (pc := 112) 1 dX11_musician_112 rfl rfl ?_
            refine z_iload X (pc := 113) 0 dX11_musician_113 rfl ?_
            refine z_iconst X (pc := 115) (v := 3) dX11_musician_115 (by decide) ?_
            refine z_bipush X (pc := 116) (v := 8) dX11_musician_116 (by decide) ?_
            refine z_callV X (pc := 118) (rest := []) kv_X11_put (c_X11_put E M_9 (gu (gu (gu (gu g 14 8 (nI (nm + 1))) 7 nm x) 8 nm y) 9 nm z) (And.left (((hS_4.trans hS_6).trans hS_8).trans hS_10)) nm 3 8 (show nm < 10 by omega) (by decide)) zk_32_0 (zc_32_0 E _) rfl rfl gw_284 (by decide) rfl rfl (Nat.le_of_ble_eq_true rfl) dX11_musician_118 (zk_rv (fun M_11 hS_12 => ?_))
            refine z_aload_n X (pc := 121) 1 dX11_musician_121 rfl rfl ?_
            refine z_iload X (pc := 122) 0 dX11_musician_122 rfl ?_
            refine z_iconst X (pc := 124) (v := 4) dX11_musician_124 (by decide) ?_
            refine z_iconst X (pc := 125) (v := 0) dX11_musician_125 (by decide) ?_
            refine z_callV X (pc := 126) (rest := []) kv_X11_put (c_X11_put E M_11 (gu (gu (gu (gu (gu g 14 8 (nI (nm + 1))) 7 nm x) 8 nm y) 9 nm z) 10 nm 8) (And.left ((((hS_4.trans hS_6).trans hS_8).trans hS_10).trans hS_12)) nm 4 0 (show nm < 10 by omega) (by decide)) zk_32_0 (zc_32_0 E _) rfl rfl gw_284 (by decide) rfl rfl (Nat.le_of_ble_eq_true rfl) dX11_musician_126 (zk_rv (fun M_13 hS_14 => ?_))
            refine z_aload_n X (pc := 129) 1 dX11_musician_129 rfl rfl ?_
            refine z_iload X (pc := 130) 0 dX11_musician_130 rfl ?_
            refine z_iconst X (pc := 132) (v := 5) dX11_musician_132 (by decide) ?_
            refine z_iconst X (pc := 133) (v := (-1)) dX11_musician_133 (by decide) ?_
            refine z_callV X (pc := 134) (rest := []) kv_X11_put (c_X11_put E M_13 (gu (gu (gu (gu (gu (gu g 14 8 (nI (nm + 1))) 7 nm x) 8 nm y) 9 nm z) 10 nm 8) 11 nm 0) (And.left (((((hS_4.trans hS_6).trans hS_8).trans hS_10).trans hS_12).trans hS_14)) nm 5 ((-1)) (show nm < 10 by omega) (by decide)) zk_32_0 (zc_32_0 E _) rfl rfl gw_284 (by decide) rfl rfl (Nat.le_of_ble_eq_true rfl) dX11_musician_134 (zk_rv (fun M_15 hS_16 => ?_))
            refine z_aload_n X (pc := 137) 1 dX11_musician_137 rfl rfl ?_
            refine z_iload X (pc := 138) 0 dX11_musician_138 rfl ?_
            refine z_bipush X (pc := 140) (v := 6) dX11_musician_140 (by decide) ?_
            refine z_iconst X (pc := 142) (v := 0) dX11_musician_142 (by decide) ?_
            refine z_callV X (pc := 143) (rest := []) kv_X11_put (c_X11_put E M_15 (gu (gu (gu (gu (gu (gu (gu g 14 8 (nI (nm + 1))) 7 nm x) 8 nm y) 9 nm z) 10 nm 8) 11 nm 0) 12 nm ((-1))) (And.left ((((((hS_4.trans hS_6).trans hS_8).trans hS_10).trans hS_12).trans hS_14).trans hS_16)) nm 6 0 (show nm < 10 by omega) (by decide)) zk_32_0 (zc_32_0 E _) rfl rfl gw_284 (by decide) rfl rfl (Nat.le_of_ble_eq_true rfl) dX11_musician_143 (zk_rv (fun M_17 hS_18 => ?_))
            refine z_iload X (pc := 146) 0 dX11_musician_146 rfl ?_
            exact z_iret X Y dX11_musician_148 ⟨_, rfl, MX.done hR hC_2 (And.left (((((((hS_4.trans hS_6).trans hS_8).trans hS_10).trans hS_12).trans hS_14).trans hS_16).trans hS_18)) (SF.fq (((((((hS_4.trans hS_6).trans hS_8).trans hS_10).trans hS_12).trans hS_14).trans hS_16).trans hS_18)) (nI_pos (by omega)) (by have hq : ¬ 10 ≤ nm := (by omega); rw [bringM_m]; simp [bringM, oBringM, hI.cNe, hI.mNe, hq, c6, c16, c26, c57])⟩
          · exact absurd (by decide) c57
        · refine z_iconst X (pc := 46) (v := 1) dX11_musician_46 (by decide) ?_
          refine z_goto X (pc := 47) (tgt := 51) dX11_musician_47 (by decide) ?_
          refine z_iconst X (pc := 51) (v := 1) dX11_musician_51 (by decide) ?_
          refine z_bipush X (pc := 52) (v := 10) dX11_musician_52 (by decide) ?_
          refine z_callV X (pc := 54) (rest := []) kv_X11_refuse (c_X11_refuse E M 1 10) zk_32_0 (zc_32_0 E _) rfl rfl gw_243 (by decide) rfl rfl (Nat.le_of_ble_eq_true rfl) dX11_musician_54 (zk_ri (fun v_21 M_19 h_20 => ?_))
          refine z_top (y := 1) h_20.1 ?_
          refine z_if_eq X (pc := 57) (tgt := 64) dX11_musician_57 (by decide) (fun c57 => ?_) (fun c57 => ?_)
          · exact absurd c57 (by decide)
          · refine z_sipush X (pc := 60) (v := (-1014)) dX11_musician_60 (by decide) ?_
            exact z_iret X Y dX11_musician_63 ⟨_, rfl, MX.refuse (rs := [(1, 10)]) hg hH h_20.2 (by decide) (by have hq : 10 ≤ nm := (by omega); have hq2 : nI nm = 10 := (by rw [c43]; rfl); simp [oBringM, hI.cNe, hI.mNe, hq, hq2, c6, c16, c26, c57]) (Nat.le_of_ble_eq_true rfl)⟩
      · refine z_sipush X (pc := 29) (v := (-1012)) dX11_musician_29 (by decide) ?_
        exact z_iret X Y dX11_musician_32 ⟨_, rfl, MX.same hg hH hR (by decide) (by simp [oBringM, hI.cNe, hI.mNe, gu_r, c6, c16, c26])⟩

def rm_X11_seat : Room := { frames := 3, cells := 0, slots := 0, locals := 68 }
theorem kv_X11_seat : KV yX11_seat RX11 cX11_seat 5 (some .int) 2 := ⟨⟨gw_447, gw_448, gw_5, gw_449⟩, by decide +kernel⟩
set_option maxRecDepth 100000 in
set_option maxHeartbeats 4000000 in
theorem c_X11_seat (E : ZE) (M : Mem) (g : LG) (hg : gF (M 20 0) = g) (nc nm n : Nat) (hI : Inv g nc nm n) (rs : Rs) (hR : RSm M rs) (hs : List LG) (hH : HM M hs) (tx : Bool) (htx : M 32 0 11 = zb tx) (x y : Int32) : Mt E yX11_seat cX11_seat 5 (some .int) rm_X11_seat [.ref (za E 32 0), .int x, .int y] M (RI (fun v0 M1 => MX M g hs tx (oSeat g rs x y) v0 M1)) := by
  have hnc := hI.nc; have hnm := hI.nm; have hn := hI.c10; have hn2 := hI.m10
  refine z_met (own := RX11) (lv := [(0, .ref (za E 32 0)), (1, .int x), (2, .int y)]) (by decide) rfl (Nat.le_of_ble_eq_true rfl) rfl (fun gg X Y => ?_)
  refine z_aload_n X (pc := 0) 0 dX11_seat_0 rfl rfl ?_
  refine z_iload_n X (pc := 1) 1 dX11_seat_1 rfl rfl ?_
  refine z_callV X (pc := 2) (rest := []) kv_X11_isChair (c_X11_isChair E M g (And.left (SF.rf hg)) nc hnc (by omega) x) zk_32_0 (zc_32_0 E _) rfl rfl gw_319 (by decide) rfl rfl (Nat.le_of_ble_eq_true rfl) dX11_seat_2 (zk_i ?_)
  refine z_bif_eq X (pc := 5) (tgt := 16) dX11_seat_5 (by decide) (fun c5 => ?_) (fun c5 => ?_)
  · refine z_sipush X (pc := 16) (v := (-1011)) dX11_seat_16 (by decide) ?_
    exact z_iret X Y dX11_seat_19 ⟨_, rfl, MX.same hg hH hR (by decide) (by simp [oSeat, hI.cNe, hI.mNe, gu_r, c5])⟩
  · refine z_aload_n X (pc := 8) 0 dX11_seat_8 rfl rfl ?_
    refine z_iload_n X (pc := 9) 2 dX11_seat_9 rfl rfl ?_
    refine z_callV X (pc := 10) (rest := []) kv_X11_isMusician (c_X11_isMusician E M g (And.left (SF.rf hg)) nm hnm (by omega) y) zk_32_0 (zc_32_0 E _) rfl rfl gw_350 (by decide) rfl rfl (Nat.le_of_ble_eq_true rfl) dX11_seat_10 (zk_i ?_)
    refine z_bif_ne X (pc := 13) (tgt := 20) dX11_seat_13 (by decide) (fun c13 => ?_) (fun c13 => ?_)
    · obtain ⟨c, hc, rfl⟩ := inR_of c5 (by omega)
      obtain ⟨m, hm, rfl⟩ := inR_of c13 (by omega)
      refine z_aload_n X (pc := 20) 0 dX11_seat_20 rfl rfl ?_
      refine z_iload_n X (pc := 21) 1 dX11_seat_21 rfl rfl ?_
      refine z_bipush X (pc := 22) (v := 6) dX11_seat_22 (by decide) ?_
      refine z_callV X (pc := 24) (rest := []) kv_X11_ofChair (c_X11_ofChair E M g (And.left (SF.rf hg)) c 6 (show c < 10 by omega) (by decide)) zk_32_0 (zc_32_0 E _) rfl rfl gw_323 (by decide) rfl rfl (Nat.le_of_ble_eq_true rfl) dX11_seat_24 (zk_i ?_)
      refine z_istore_n X (pc := 27) (lv1 := [(3, .int (g 6 c)), (0, .ref (za E 32 0)), (1, .int (nI c)), (2, .int (nI m))]) dX11_seat_27 rfl (by decide) rfl ?_
      refine z_aload_n X (pc := 28) 1 dX11_seat_28 rfl rfl ?_
      refine z_iload_n X (pc := 29) 3 dX11_seat_29 rfl rfl ?_
      refine z_iconst X (pc := 30) (v := 5) dX11_seat_30 (by decide) ?_
      refine z_callV X (pc := 31) (rest := []) kv_X11_of (c_X11_of E M g (And.left (SF.rf hg)) m 5 (show m < 10 by omega) (by decide)) zk_32_0 (zc_32_0 E _) rfl rfl gw_354 (by decide) rfl rfl (Nat.le_of_ble_eq_true rfl) dX11_seat_31 (zk_i ?_)
      refine z_istore X (pc := 34) (lv1 := [(4, .int (g 12 m)), (3, .int (g 6 c)), (0, .ref (za E 32 0)), (1, .int (nI c)), (2, .int (nI m))]) dX11_seat_34 (by decide) rfl ?_
      refine z_aload_n X (pc := 36) 2 dX11_seat_36 rfl rfl ?_
      refine z_aload_n X (pc := 37) 2 dX11_seat_37 rfl rfl ?_
      refine z_iload_n X (pc := 38) 3 dX11_seat_38 rfl rfl ?_
      refine z_callV X (pc := 39) (rest := [.ref (za E 32 0)]) kv_X11_hasFallen (c_X11_hasFallen E M g (And.left (SF.rf hg)) c (show c < 10 by omega)) zk_32_0 (zc_32_0 E _) rfl rfl gw_450 (by decide) rfl rfl (Nat.le_of_ble_eq_true rfl) dX11_seat_39 (zk_i ?_)
      refine z_iload_n X (pc := 42) 4 dX11_seat_42 rfl rfl ?_
      refine z_iconst X (pc := 43) (v := 3) dX11_seat_43 (by decide) ?_
      refine z_aload_n X (pc := 44) 2 dX11_seat_44 rfl rfl ?_
      refine z_callV X (pc := 45) (rest := [.int 3, .int (nI m), .int (zb (fell g c)), .ref (za E 32 0)]) kv_X11_fallen (c_X11_fallen E M g (And.left (SF.rf hg)) nc hnc (by omega)) zk_32_0 (zc_32_0 E _) rfl rfl gw_454 (by decide) rfl rfl (Nat.le_of_ble_eq_true rfl) dX11_seat_45 (zk_i ?_)
      rcases Bool.eq_false_or_eq_true (fell g c) with hb48 | hb48
      · refine z_eq (st' := [.int (nI (cntB (fell g) nc)), .int 3, .int (nI m), .int 1, .ref (za E 32 0)]) rfl (by rw [hb48]; rfl) ?_
        refine z_callV X (pc := 48) (rest := []) kv_X11_refuseSeat (c_X11_refuseSeat E M (nI m) 3 (nI (cntB (fell g) nc))) zk_32_0 (zc_32_0 E _) rfl rfl gw_458 (by decide) rfl rfl (Nat.le_of_ble_eq_true rfl) dX11_seat_48 (zk_ri (fun v_3 M_1 h_2 => ?_))
        refine z_top (y := 1) h_2.1 ?_
        refine z_if_ne X (pc := 51) (tgt := 153) dX11_seat_51 (by decide) (fun c51 => ?_) (fun c51 => ?_)
        · refine z_sipush X (pc := 153) (v := (-1014)) dX11_seat_153 (by decide) ?_
          exact z_iret X Y dX11_seat_156 ⟨_, rfl, MX.refuse (rs := [(2, (nI m)), (3, (nI (cntB (fell g) nc)))]) hg hH h_2.2 (by decide) (by rw [oSeat_in hI hc hm]; simp [oSeatN, taken, sits, hI.cNe, hI.mNe, gu_r, hb48, c51]) (Nat.le_of_ble_eq_true rfl)⟩
        · exact absurd c51 (by decide)
      · refine z_eq (st' := [.int (nI (cntB (fell g) nc)), .int 3, .int (nI m), .int 0, .ref (za E 32 0)]) rfl (by rw [hb48]; rfl) ?_
        refine z_callV X (pc := 48) (rest := []) kv_X11_refuseSeat (c_X11_refuseSeat_no E M (nI m) 3 (nI (cntB (fell g) nc))) zk_32_0 (zc_32_0 E _) rfl rfl gw_458 (by decide) rfl rfl (Nat.le_of_ble_eq_true rfl) dX11_seat_48 (zk_i ?_)
        refine z_if_ne X (pc := 51) (tgt := 153) dX11_seat_51 (by decide) (fun c51 => ?_) (fun c51 => ?_)
        · exact absurd c51 (by decide)
        · refine z_aload_n X (pc := 54) 2 dX11_seat_54 rfl rfl ?_
          refine z_iload_n X (pc := 55) 1 dX11_seat_55 rfl rfl ?_
          rcases (show nOr (g 6 c) 10 from ((hI.nor6 hc).le (by omega))) with hp56 | ⟨k56, hk56, hp56⟩
          · refine z_top (y := ((-1))) hp56 ?_
            refine z_if_lt X (pc := 56) (tgt := 63) dX11_seat_56 (by decide) (fun c56 => ?_) (fun c56 => ?_)
            · refine z_iconst X (pc := 63) (v := 0) dX11_seat_63 (by decide) ?_
              refine z_iload_n X (pc := 64) 4 dX11_seat_64 rfl rfl ?_
              refine z_iconst X (pc := 65) (v := 4) dX11_seat_65 (by decide) ?_
              refine z_iload_n X (pc := 66) 1 dX11_seat_66 rfl rfl ?_
              refine z_callV X (pc := 67) (rest := []) kv_X11_refuseSeat (c_X11_refuseSeat_no E M (nI m) 4 (g 6 c)) zk_32_0 (zc_32_0 E _) rfl rfl gw_458 (by decide) rfl rfl (Nat.le_of_ble_eq_true rfl) dX11_seat_67 (zk_i ?_)
              refine z_if_ne X (pc := 70) (tgt := 153) dX11_seat_70 (by decide) (fun c70 => ?_) (fun c70 => ?_)
              · exact absurd c70 (by decide)
              · refine z_aload_n X (pc := 73) 2 dX11_seat_73 rfl rfl ?_
                refine z_iload X (pc := 74) 0 dX11_seat_74 rfl ?_
                rcases (show nOr (g 12 m) 10 from ((hI.nor12 hm).le (by omega))) with hp76 | ⟨k76, hk76, hp76⟩
                · refine z_top (y := ((-1))) hp76 ?_
                  refine z_if_lt X (pc := 76) (tgt := 83) dX11_seat_76 (by decide) (fun c76 => ?_) (fun c76 => ?_)
                  · refine z_iconst X (pc := 83) (v := 0) dX11_seat_83 (by decide) ?_
                    refine z_iload_n X (pc := 84) 4 dX11_seat_84 rfl rfl ?_
                    refine z_iconst X (pc := 85) (v := 5) dX11_seat_85 (by decide) ?_
                    refine z_iload X (pc := 86) 0 dX11_seat_86 rfl ?_
                    refine z_callV X (pc := 88) (rest := []) kv_X11_refuseSeat (c_X11_refuseSeat_no E M (nI m) 5 (g 12 m)) zk_32_0 (zc_32_0 E _) rfl rfl gw_458 (by decide) rfl rfl (Nat.le_of_ble_eq_true rfl) dX11_seat_88 (zk_i ?_)
                    refine z_if_ne X (pc := 91) (tgt := 153) dX11_seat_91 (by decide) (fun c91 => ?_) (fun c91 => ?_)
                    · exact absurd c91 (by decide)
                    · refine z_aload_n X (pc := 94) 2 dX11_seat_94 rfl rfl ?_
                      refine z_aload_n X (pc := 95) 2 dX11_seat_95 rfl rfl ?_
                      refine z_iload_n X (pc := 96) 3 dX11_seat_96 rfl rfl ?_
                      refine z_iload_n X (pc := 97) 4 dX11_seat_97 rfl rfl ?_
                      refine z_callV X (pc := 98) (rest := [.ref (za E 32 0)]) kv_X11_wants (c_X11_wants E M g (And.left (SF.rf hg)) c m (show c < 10 by omega) (show m < 10 by omega)) zk_32_0 (zc_32_0 E _) rfl rfl gw_462 (by decide) rfl rfl (Nat.le_of_ble_eq_true rfl) dX11_seat_98 (zk_i ?_)
                      refine z_bif_ne X (pc := 101) (tgt := 108) dX11_seat_101 (by decide) (fun c101 => ?_) (fun c101 => ?_)
                      · refine z_iconst X (pc := 108) (v := 0) dX11_seat_108 (by decide) ?_
                        refine z_iload_n X (pc := 109) 4 dX11_seat_109 rfl rfl ?_
                        refine z_bipush X (pc := 110) (v := 6) dX11_seat_110 (by decide) ?_
                        refine z_aload_n X (pc := 112) 2 dX11_seat_112 rfl rfl ?_
                        refine z_iload_n X (pc := 113) 3 dX11_seat_113 rfl rfl ?_
                        refine z_iload_n X (pc := 114) 4 dX11_seat_114 rfl rfl ?_
                        refine z_callV X (pc := 115) (rest := [.int 6, .int (nI m), .int 0, .ref (za E 32 0)]) kv_X11_fitOf (c_X11_fitOf E M g (And.left (SF.rf hg)) c m (show c < 10 by omega) (show m < 10 by omega)) zk_32_0 (zc_32_0 E _) rfl rfl gw_382 (by decide) rfl rfl (Nat.le_of_ble_eq_true rfl) dX11_seat_115 (zk_i ?_)
                        refine z_callV X (pc := 118) (rest := []) kv_X11_refuseSeat (c_X11_refuseSeat_no E M (nI m) 6 (fit g c m)) zk_32_0 (zc_32_0 E _) rfl rfl gw_458 (by decide) rfl rfl (Nat.le_of_ble_eq_true rfl) dX11_seat_118 (zk_i ?_)
                        refine z_if_ne X (pc := 121) (tgt := 153) dX11_seat_121 (by decide) (fun c121 => ?_) (fun c121 => ?_)
                        · exact absurd c121 (by decide)
                        · refine z_aload_n X (pc := 124) 2 dX11_seat_124 rfl rfl ?_
                          refine z_aload_n X (pc := 125) 2 dX11_seat_125 rfl rfl ?_
                          refine z_iload_n X (pc := 126) 4 dX11_seat_126 rfl rfl ?_
                          refine z_iload_n X (pc := 127) 3 dX11_seat_127 rfl rfl ?_
                          refine z_callV X (pc := 128) (rest := [.ref (za E 32 0)]) kv_X11_bears (c_X11_bears E M g (And.left (SF.rf hg)) m c (show m < 10 by omega) (show c < 10 by omega)) zk_32_0 (zc_32_0 E _) rfl rfl gw_466 (by decide) rfl rfl (Nat.le_of_ble_eq_true rfl) dX11_seat_128 (zk_i ?_)
                          refine z_bif_ne X (pc := 131) (tgt := 138) dX11_seat_131 (by decide) (fun c131 => ?_) (fun c131 => ?_)
                          · refine z_iconst X (pc := 138) (v := 0) dX11_seat_138 (by decide) ?_
                            refine z_iload_n X (pc := 139) 4 dX11_seat_139 rfl rfl ?_
                            refine z_bipush X (pc := 140) (v := 7) dX11_seat_140 (by decide) ?_
                            refine z_aload_n X (pc := 142) 2 dX11_seat_142 rfl rfl ?_
                            refine z_iload_n X (pc := 143) 3 dX11_seat_143 rfl rfl ?_
                            refine z_callV X (pc := 144) (rest := [.int 7, .int (nI m), .int 0, .ref (za E 32 0)]) kv_X11_comfort (c_X11_comfort E M g (And.left (SF.rf hg)) c (show c < 10 by omega)) zk_32_0 (zc_32_0 E _) rfl rfl gw_327 (by decide) rfl rfl (Nat.le_of_ble_eq_true rfl) dX11_seat_144 (zk_i ?_)
                            refine z_callV X (pc := 147) (rest := []) kv_X11_refuseSeat (c_X11_refuseSeat_no E M (nI m) 7 (comf g c)) zk_32_0 (zc_32_0 E _) rfl rfl gw_458 (by decide) rfl rfl (Nat.le_of_ble_eq_true rfl) dX11_seat_147 (zk_i ?_)
                            refine z_if_eq X (pc := 150) (tgt := 157) dX11_seat_150 (by decide) (fun c150 => ?_) (fun c150 => ?_)
                            · refine z_aload_n X (pc := 157) 2 dX11_seat_157 rfl rfl ?_
                              refine z_callV X (pc := 158) (rest := []) kv_X11_change (c_X11_change E M g (And.left (SF.rf hg)) hs hH tx htx) zk_32_0 (zc_32_0 E _) rfl rfl gw_248 (by decide) rfl rfl (Nat.le_of_ble_eq_true rfl) dX11_seat_158 (zk_rv (fun M_4 hC_5 => ?_))
                              refine z_aload_n X (pc := 161) 2 dX11_seat_161 rfl rfl ?_
                              refine z_iload_n X (pc := 162) 4 dX11_seat_162 rfl rfl ?_
                              refine z_iload_n X (pc := 163) 3 dX11_seat_163 rfl rfl ?_
                              refine z_callV X (pc := 164) (rest := []) kv_X11_sit (c_X11_sit E M_4 g (And.left (SF.rf (hC_5.2.g20 hg))) m c (show m < 10 by omega) (show c < 10 by omega)) zk_32_0 (zc_32_0 E _) rfl rfl gw_470 (by decide) rfl rfl (Nat.le_of_ble_eq_true rfl) dX11_seat_164 (zk_rv (fun M_6 hS_7 => ?_))
                              refine z_aload_n X (pc := 167) 2 dX11_seat_167 rfl rfl ?_
                              refine z_callV X (pc := 168) (rest := []) kv_X11_sitting (c_X11_sitting E M_6 (sitG g c m) (And.left ((SF.rf (hC_5.2.g20 hg)).trans hS_7)) nm (by rw [sitG_off (by decide)]; exact hnm) (by omega) (fun k hk => sitG_nor (by omega) ((hI.nor12 hk).le (by omega)))) zk_32_0 (zc_32_0 E _) rfl rfl gw_474 (by decide) rfl rfl (Nat.le_of_ble_eq_true rfl) dX11_seat_168 (zk_i ?_)
                              exact z_iret X Y dX11_seat_171 ⟨_, rfl, MX.done hR hC_5 (And.left ((SF.rf (hC_5.2.g20 hg)).trans hS_7)) (SF.fq ((SF.rf (hC_5.2.g20 hg)).trans hS_7)) (nI_pos (by have := cntB_le (sits (sitG g c m)) nm; omega)) (by rw [oSeat_in hI hc hm]; simp [oSeatN, taken, sits, hI.cNe, hI.mNe, gu_r, hb48, c51, hp56, c56, (i32_nle.mpr c56), c70, hp76, c76, (i32_nle.mpr c76), c91, c101, c121, c131, c150])⟩
                            · exact absurd (by decide) c150
                          · refine z_iconst X (pc := 134) (v := 1) dX11_seat_134 (by decide) ?_
                            refine z_goto X (pc := 135) (tgt := 139) dX11_seat_135 (by decide) ?_
                            refine z_iload_n X (pc := 139) 4 dX11_seat_139 rfl rfl ?_
                            refine z_bipush X (pc := 140) (v := 7) dX11_seat_140 (by decide) ?_
                            refine z_aload_n X (pc := 142) 2 dX11_seat_142 rfl rfl ?_
                            refine z_iload_n X (pc := 143) 3 dX11_seat_143 rfl rfl ?_
                            refine z_callV X (pc := 144) (rest := [.int 7, .int (nI m), .int 1, .ref (za E 32 0)]) kv_X11_comfort (c_X11_comfort E M g (And.left (SF.rf hg)) c (show c < 10 by omega)) zk_32_0 (zc_32_0 E _) rfl rfl gw_327 (by decide) rfl rfl (Nat.le_of_ble_eq_true rfl) dX11_seat_144 (zk_i ?_)
                            refine z_callV X (pc := 147) (rest := []) kv_X11_refuseSeat (c_X11_refuseSeat E M (nI m) 7 (comf g c)) zk_32_0 (zc_32_0 E _) rfl rfl gw_458 (by decide) rfl rfl (Nat.le_of_ble_eq_true rfl) dX11_seat_147 (zk_ri (fun v_10 M_8 h_9 => ?_))
                            refine z_top (y := 1) h_9.1 ?_
                            refine z_if_eq X (pc := 150) (tgt := 157) dX11_seat_150 (by decide) (fun c150 => ?_) (fun c150 => ?_)
                            · exact absurd c150 (by decide)
                            · refine z_sipush X (pc := 153) (v := (-1014)) dX11_seat_153 (by decide) ?_
                              exact z_iret X Y dX11_seat_156 ⟨_, rfl, MX.refuse (rs := [(2, (nI m)), (7, (comf g c))]) hg hH h_9.2 (by decide) (by rw [oSeat_in hI hc hm]; simp [oSeatN, taken, sits, hI.cNe, hI.mNe, gu_r, hb48, c51, hp56, c56, (i32_nle.mpr c56), c70, hp76, c76, (i32_nle.mpr c76), c91, c101, c121, c131, c150]) (Nat.le_of_ble_eq_true rfl)⟩
                      · refine z_iconst X (pc := 104) (v := 1) dX11_seat_104 (by decide) ?_
                        refine z_goto X (pc := 105) (tgt := 109) dX11_seat_105 (by decide) ?_
                        refine z_iload_n X (pc := 109) 4 dX11_seat_109 rfl rfl ?_
                        refine z_bipush X (pc := 110) (v := 6) dX11_seat_110 (by decide) ?_
                        refine z_aload_n X (pc := 112) 2 dX11_seat_112 rfl rfl ?_
                        refine z_iload_n X (pc := 113) 3 dX11_seat_113 rfl rfl ?_
                        refine z_iload_n X (pc := 114) 4 dX11_seat_114 rfl rfl ?_
                        refine z_callV X (pc := 115) (rest := [.int 6, .int (nI m), .int 1, .ref (za E 32 0)]) kv_X11_fitOf (c_X11_fitOf E M g (And.left (SF.rf hg)) c m (show c < 10 by omega) (show m < 10 by omega)) zk_32_0 (zc_32_0 E _) rfl rfl gw_382 (by decide) rfl rfl (Nat.le_of_ble_eq_true rfl) dX11_seat_115 (zk_i ?_)
                        refine z_callV X (pc := 118) (rest := []) kv_X11_refuseSeat (c_X11_refuseSeat E M (nI m) 6 (fit g c m)) zk_32_0 (zc_32_0 E _) rfl rfl gw_458 (by decide) rfl rfl (Nat.le_of_ble_eq_true rfl) dX11_seat_118 (zk_ri (fun v_13 M_11 h_12 => ?_))
                        refine z_top (y := 1) h_12.1 ?_
                        refine z_if_ne X (pc := 121) (tgt := 153) dX11_seat_121 (by decide) (fun c121 => ?_) (fun c121 => ?_)
                        · refine z_sipush X (pc := 153) (v := (-1014)) dX11_seat_153 (by decide) ?_
                          exact z_iret X Y dX11_seat_156 ⟨_, rfl, MX.refuse (rs := [(2, (nI m)), (6, (fit g c m))]) hg hH h_12.2 (by decide) (by rw [oSeat_in hI hc hm]; simp [oSeatN, taken, sits, hI.cNe, hI.mNe, gu_r, hb48, c51, hp56, c56, (i32_nle.mpr c56), c70, hp76, c76, (i32_nle.mpr c76), c91, c101, c121]) (Nat.le_of_ble_eq_true rfl)⟩
                        · exact absurd c121 (by decide)
                  · exact absurd (by decide) c76
                · refine z_top (y := (nI k76)) hp76 ?_
                  refine z_if_lt X (pc := 76) (tgt := 83) dX11_seat_76 (by decide) (fun c76 => ?_) (fun c76 => ?_)
                  · exact absurd c76 (nI_pos (by omega))
                  · refine z_iconst X (pc := 79) (v := 1) dX11_seat_79 (by decide) ?_
                    refine z_goto X (pc := 80) (tgt := 84) dX11_seat_80 (by decide) ?_
                    refine z_iload_n X (pc := 84) 4 dX11_seat_84 rfl rfl ?_
                    refine z_iconst X (pc := 85) (v := 5) dX11_seat_85 (by decide) ?_
                    refine z_iload X (pc := 86) 0 dX11_seat_86 rfl ?_
                    refine z_callV X (pc := 88) (rest := []) kv_X11_refuseSeat (c_X11_refuseSeat E M (nI m) 5 (g 12 m)) zk_32_0 (zc_32_0 E _) rfl rfl gw_458 (by decide) rfl rfl (Nat.le_of_ble_eq_true rfl) dX11_seat_88 (zk_ri (fun v_16 M_14 h_15 => ?_))
                    refine z_top (y := 1) h_15.1 ?_
                    refine z_if_ne X (pc := 91) (tgt := 153) dX11_seat_91 (by decide) (fun c91 => ?_) (fun c91 => ?_)
                    · refine z_sipush X (pc := 153) (v := (-1014)) dX11_seat_153 (by decide) ?_
                      exact z_iret X Y dX11_seat_156 ⟨_, rfl, MX.refuse (rs := [(2, (nI m)), (5, (g 12 m))]) hg hH h_15.2 (by decide) (by rw [oSeat_in hI hc hm]; simp [oSeatN, taken, sits, hI.cNe, hI.mNe, gu_r, hb48, c51, hp56, c56, (i32_nle.mpr c56), c70, hp76, nI_ne_m1 (show k76 < 2 ^ 31 by omega), nI_clamp (show k76 < 2 ^ 31 by omega), c76, c91]) (Nat.le_of_ble_eq_true rfl)⟩
                    · exact absurd c91 (by decide)
            · exact absurd (by decide) c56
          · refine z_top (y := (nI k56)) hp56 ?_
            refine z_if_lt X (pc := 56) (tgt := 63) dX11_seat_56 (by decide) (fun c56 => ?_) (fun c56 => ?_)
            · exact absurd c56 (nI_pos (by omega))
            · refine z_iconst X (pc := 59) (v := 1) dX11_seat_59 (by decide) ?_
              refine z_goto X (pc := 60) (tgt := 64) dX11_seat_60 (by decide) ?_
              refine z_iload_n X (pc := 64) 4 dX11_seat_64 rfl rfl ?_
              refine z_iconst X (pc := 65) (v := 4) dX11_seat_65 (by decide) ?_
              refine z_iload_n X (pc := 66) 1 dX11_seat_66 rfl rfl ?_
              refine z_callV X (pc := 67) (rest := []) kv_X11_refuseSeat (c_X11_refuseSeat E M (nI m) 4 (g 6 c)) zk_32_0 (zc_32_0 E _) rfl rfl gw_458 (by decide) rfl rfl (Nat.le_of_ble_eq_true rfl) dX11_seat_67 (zk_ri (fun v_19 M_17 h_18 => ?_))
              refine z_top (y := 1) h_18.1 ?_
              refine z_if_ne X (pc := 70) (tgt := 153) dX11_seat_70 (by decide) (fun c70 => ?_) (fun c70 => ?_)
              · refine z_sipush X (pc := 153) (v := (-1014)) dX11_seat_153 (by decide) ?_
                exact z_iret X Y dX11_seat_156 ⟨_, rfl, MX.refuse (rs := [(2, (nI m)), (4, (g 6 c))]) hg hH h_18.2 (by decide) (by rw [oSeat_in hI hc hm]; simp [oSeatN, taken, sits, hI.cNe, hI.mNe, gu_r, hb48, c51, hp56, nI_ne_m1 (show k56 < 2 ^ 31 by omega), nI_clamp (show k56 < 2 ^ 31 by omega), c56, c70]) (Nat.le_of_ble_eq_true rfl)⟩
              · exact absurd c70 (by decide)
    · refine z_sipush X (pc := 16) (v := (-1011)) dX11_seat_16 (by decide) ?_
      exact z_iret X Y dX11_seat_19 ⟨_, rfl, MX.same hg hH hR (by decide) (by simp [oSeat, hI.cNe, hI.mNe, gu_r, c5, c13])⟩

def rm_X11_rise : Room := { frames := 3, cells := 0, slots := 0, locals := 64 }
theorem kv_X11_rise : KV yX11_rise RX11 cX11_rise 3 (some .int) 1 := ⟨⟨gw_492, gw_493, gw_5, gw_494⟩, by decide +kernel⟩
set_option maxRecDepth 100000 in
set_option maxHeartbeats 4000000 in
theorem c_X11_rise (E : ZE) (M : Mem) (g : LG) (hg : gF (M 20 0) = g) (nc nm n : Nat) (hI : Inv g nc nm n) (rs : Rs) (hR : RSm M rs) (hs : List LG) (hH : HM M hs) (tx : Bool) (htx : M 32 0 11 = zb tx) (y : Int32) : Mt E yX11_rise cX11_rise 3 (some .int) rm_X11_rise [.ref (za E 32 0), .int y] M (RI (fun v0 M1 => MX M g hs tx (oRise g rs y) v0 M1)) := by
  have hnc := hI.nc; have hnm := hI.nm; have hn := hI.c10; have hn2 := hI.m10
  refine z_met (own := RX11) (lv := [(0, .ref (za E 32 0)), (1, .int y)]) (by decide) rfl (Nat.le_of_ble_eq_true rfl) rfl (fun gg X Y => ?_)
  refine z_aload_n X (pc := 0) 0 dX11_rise_0 rfl rfl ?_
  refine z_iload_n X (pc := 1) 1 dX11_rise_1 rfl rfl ?_
  refine z_callV X (pc := 2) (rest := []) kv_X11_isMusician (c_X11_isMusician E M g (And.left (SF.rf hg)) nm hnm (by omega) y) zk_32_0 (zc_32_0 E _) rfl rfl gw_350 (by decide) rfl rfl (Nat.le_of_ble_eq_true rfl) dX11_rise_2 (zk_i ?_)
  refine z_bif_ne X (pc := 5) (tgt := 12) dX11_rise_5 (by decide) (fun c5 => ?_) (fun c5 => ?_)
  · obtain ⟨m, hm, rfl⟩ := inR_of c5 (by omega)
    refine z_aload_n X (pc := 12) 0 dX11_rise_12 rfl rfl ?_
    refine z_iload_n X (pc := 13) 1 dX11_rise_13 rfl rfl ?_
    refine z_iconst X (pc := 14) (v := 5) dX11_rise_14 (by decide) ?_
    refine z_callV X (pc := 15) (rest := []) kv_X11_of (c_X11_of E M g (And.left (SF.rf hg)) m 5 (show m < 10 by omega) (by decide)) zk_32_0 (zc_32_0 E _) rfl rfl gw_354 (by decide) rfl rfl (Nat.le_of_ble_eq_true rfl) dX11_rise_15 (zk_i ?_)
    refine z_istore_n X (pc := 18) (lv1 := [(2, .int (g 12 m)), (0, .ref (za E 32 0)), (1, .int (nI m))]) dX11_rise_18 rfl (by decide) rfl ?_
    refine z_aload_n X (pc := 19) 1 dX11_rise_19 rfl rfl ?_
    refine z_iload_n X (pc := 20) 0 dX11_rise_20 rfl rfl ?_
    rcases (show nOr (g 12 m) 10 from ((hI.nor12 hm).le (by omega))) with hp21 | ⟨k21, hk21, hp21⟩
    · refine z_top (y := ((-1))) hp21 ?_
      refine z_if_ge X (pc := 21) (tgt := 28) dX11_rise_21 (by decide) (fun c21 => ?_) (fun c21 => ?_)
      · exact absurd c21 (by decide)
      · refine z_iconst X (pc := 24) (v := 1) dX11_rise_24 (by decide) ?_
        refine z_goto X (pc := 25) (tgt := 29) dX11_rise_25 (by decide) ?_
        refine z_bipush X (pc := 29) (v := 8) dX11_rise_29 (by decide) ?_
        refine z_aload_n X (pc := 31) 1 dX11_rise_31 rfl rfl ?_
        refine z_callV X (pc := 32) (rest := [.int 8, .int 1, .ref (za E 32 0)]) kv_X11_sitting (c_X11_sitting E M g (And.left (SF.rf hg)) nm hnm (by omega) (fun m hm => (hI.nor12 hm).le (by omega))) zk_32_0 (zc_32_0 E _) rfl rfl gw_474 (by decide) rfl rfl (Nat.le_of_ble_eq_true rfl) dX11_rise_32 (zk_i ?_)
        refine z_callV X (pc := 35) (rest := []) kv_X11_refuse (c_X11_refuse E M 8 (nI (cntB (sits g) nm))) zk_32_0 (zc_32_0 E _) rfl rfl gw_243 (by decide) rfl rfl (Nat.le_of_ble_eq_true rfl) dX11_rise_35 (zk_ri (fun v_3 M_1 h_2 => ?_))
        refine z_top (y := 1) h_2.1 ?_
        refine z_if_eq X (pc := 38) (tgt := 45) dX11_rise_38 (by decide) (fun c38 => ?_) (fun c38 => ?_)
        · exact absurd c38 (by decide)
        · refine z_sipush X (pc := 41) (v := (-1014)) dX11_rise_41 (by decide) ?_
          exact z_iret X Y dX11_rise_44 ⟨_, rfl, MX.refuse (rs := [(8, (nI (cntB (sits g) nm)))]) hg hH h_2.2 (by decide) (by rw [oRise_in hI hm]; simp [oRiseN, nSit, sits, hI.cNe, hI.mNe, gu_r, hp21, c21, (i32_nle.mp c21), c38]) (Nat.le_of_ble_eq_true rfl)⟩
    · refine z_top (y := (nI k21)) hp21 ?_
      refine z_if_ge X (pc := 21) (tgt := 28) dX11_rise_21 (by decide) (fun c21 => ?_) (fun c21 => ?_)
      · refine z_iconst X (pc := 28) (v := 0) dX11_rise_28 (by decide) ?_
        refine z_bipush X (pc := 29) (v := 8) dX11_rise_29 (by decide) ?_
        refine z_aload_n X (pc := 31) 1 dX11_rise_31 rfl rfl ?_
        refine z_callV X (pc := 32) (rest := [.int 8, .int 0, .ref (za E 32 0)]) kv_X11_sitting (c_X11_sitting E M g (And.left (SF.rf hg)) nm hnm (by omega) (fun m hm => (hI.nor12 hm).le (by omega))) zk_32_0 (zc_32_0 E _) rfl rfl gw_474 (by decide) rfl rfl (Nat.le_of_ble_eq_true rfl) dX11_rise_32 (zk_i ?_)
        refine z_callV X (pc := 35) (rest := []) kv_X11_refuse (c_X11_refuse_no E M 8 (nI (cntB (sits g) nm))) zk_32_0 (zc_32_0 E _) rfl rfl gw_243 (by decide) rfl rfl (Nat.le_of_ble_eq_true rfl) dX11_rise_35 (zk_i ?_)
        refine z_if_eq X (pc := 38) (tgt := 45) dX11_rise_38 (by decide) (fun c38 => ?_) (fun c38 => ?_)
        · refine z_aload_n X (pc := 45) 1 dX11_rise_45 rfl rfl ?_
          refine z_callV X (pc := 46) (rest := []) kv_X11_change (c_X11_change E M g (And.left (SF.rf hg)) hs hH tx htx) zk_32_0 (zc_32_0 E _) rfl rfl gw_248 (by decide) rfl rfl (Nat.le_of_ble_eq_true rfl) dX11_rise_46 (zk_rv (fun M_4 hC_5 => ?_))
          refine z_aload_n X (pc := 49) 1 dX11_rise_49 rfl rfl ?_
          refine z_iload_n X (pc := 50) 2 dX11_rise_50 rfl rfl ?_
          refine z_callV X (pc := 51) (rest := []) kv_X11_standUp (c_X11_standUp E M_4 g (And.left (SF.rf (hC_5.2.g20 hg))) m (show m < 10 by omega) ((hI.nor12 hm).le (by omega))) zk_32_0 (zc_32_0 E _) rfl rfl gw_495 (by decide) rfl rfl (Nat.le_of_ble_eq_true rfl) dX11_rise_51 (zk_rv (fun M_6 hS_7 => ?_))
          refine z_iload_n X (pc := 54) 0 dX11_rise_54 rfl rfl ?_
          exact z_iret X Y dX11_rise_55 ⟨_, rfl, MX.done hR hC_5 (And.left ((SF.rf (hC_5.2.g20 hg)).trans hS_7)) (SF.fq ((SF.rf (hC_5.2.g20 hg)).trans hS_7)) (by rw [hp21]; exact nI_pos (by omega)) (by rw [oRise_in hI hm]; simp [oRiseN, nSit, sits, hI.cNe, hI.mNe, gu_r, hp21, nI_ne_m1 (show k21 < 2 ^ 31 by omega), nI_clamp (show k21 < 2 ^ 31 by omega), c21, c38])⟩
        · exact absurd (by decide) c38
      · exact absurd (nI_pos' (by omega)) c21
  · refine z_sipush X (pc := 8) (v := (-1011)) dX11_rise_8 (by decide) ?_
    exact z_iret X Y dX11_rise_11 ⟨_, rfl, MX.same hg hH hR (by decide) (by simp [oRise, hI.cNe, hI.mNe, gu_r, c5])⟩
