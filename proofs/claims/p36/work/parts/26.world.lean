/-! ===== from the constructors' lists to the world ===== -/
def setA (E : ZE) (a : Nat → Nat → Nat) : ZE := (E.1, E.2.1, a, E.2.2.2)
/-- where every cell stands: the class at q, its parts by a -/
def aaF (q : Nat) (a : Nat → Nat → Nat) : Nat → Nat → Nat := fun x r => if x = 17 then q else a x r
def M0 : Mem := fun b r => if r = 3 ∧ b ≤ 10 then upd (fun _ => 0) 0 10 else fun _ => 0
def mtAt (E : ZE) (o : Nat × Nat) (e : Nat × va_E) : Prop := e.1 = za E o.1 o.2 ∧ ∀ H : Heap, va_at (zD E) vwCl e H → va_at (zD E) vwCl (za E o.1 o.2, zcell E M0 o.1 o.2) H
def Mw (E : ZE) : List (Nat × Nat) → va_W → Prop
  | [], [] => True
  | o :: os, e :: es => mtAt E o e ∧ Mw E os es
  | _, _ => False
theorem Mw.app {E : ZE} : ∀ {o1 o2 : List (Nat × Nat)} {w1 w2 : va_W}, Mw E o1 w1 → Mw E o2 w2 → Mw E (o1 ++ o2) (w1 ++ w2)
  | [], _, [], _, _, h2 => h2
  | _ :: _, _, _ :: _, _, h1, h2 => ⟨h1.1, Mw.app h1.2 h2⟩
  | [], _, _ :: _, _, h1, _ => h1.elim
  | _ :: _, _, [], _, h1, _ => h1.elim
theorem Mw.get {E : ZE} : ∀ {os : List (Nat × Nat)} {w : va_W}, Mw E os w → ∀ (i : Nat) (o : Nat × Nat), os[i]? = some o → ∃ e, w[i]? = some e ∧ mtAt E o e
  | [], [], _, i, o, h => by cases i <;> cases h
  | _ :: _, e :: _, h, 0, o, ho => by cases ho; exact ⟨e, rfl, h.1⟩
  | _ :: _, _ :: _, h, i + 1, o, ho => Mw.get h.2 i o ho
  | [], _ :: _, h, _, _, _ => h.elim
  | _ :: _, [], h, _, _, _ => h.elim
theorem Mw.to {E : ZE} {os : List (Nat × Nat)} {w : va_W} {H : Heap} (h : Mw E os w) (hm : ∀ o ∈ zL, o ∈ os) (hn : zL.Nodup) (hP : va_P (zD E) vwCl w H) (hD : va_D (zA E) w) : Wd E M0 H := by
  have key : ∀ (k : Nat) (q : Nat × va_E), (zws E M0)[k]? = some q → ∃ (o : Nat × Nat) (i : Nat) (e : Nat × va_E), zL[k]? = some o ∧ os[i]? = some o ∧ w[i]? = some e ∧ mtAt E o e ∧ q = (za E o.1 o.2, zcell E M0 o.1 o.2) := by
    intro k q hq
    unfold zws at hq
    rw [List.getElem?_map] at hq
    cases ho : zL[k]? with
    | none => rw [ho] at hq; cases hq
    | some o =>
      rw [ho] at hq
      obtain ⟨i, hi⟩ := List.getElem?_of_mem (hm o (List.mem_of_getElem? ho))
      obtain ⟨e, he, h1⟩ := h.get i o hi
      exact ⟨o, i, e, rfl, hi, he, h1, (Option.some.inj hq).symm⟩
  refine ⟨fun k q hq => ?_, fun i j p q hp hq he => ?_, fun k q hq => ?_⟩
  · obtain ⟨o, i, e, -, -, h3, h4, rfl⟩ := key k q hq
    exact h4.2 H (hP i e h3)
  · obtain ⟨o, i1, e, a1, a2, a3, a4, rfl⟩ := key i p hp
    obtain ⟨o', i2, e', b1, b2, b3, b4, rfl⟩ := key j q hq
    have h12 : i1 = i2 := hD.1 i1 i2 e e' a3 b3 (a4.1.trans (he.trans b4.1.symm))
    subst h12
    cases a2.symm.trans b2
    obtain ⟨x1, y1⟩ := List.getElem?_eq_some_iff.mp a1
    obtain ⟨x2, y2⟩ := List.getElem?_eq_some_iff.mp b1
    have hp := List.pairwise_iff_getElem.mp hn
    rcases Nat.lt_trichotomy i j with h | h | h
    · exact absurd (y1.trans y2.symm) (hp i j x1 x2 h)
    · exact h
    · exact absurd (y2.trans y1.symm) (hp j i x2 x1 h)
  · obtain ⟨o, i, e, -, -, h3, h4, rfl⟩ := key k q hq
    have := hD.2 i e h3
    rw [h4.1] at this
    exact this
def osRw (x r : Nat) : List (Nat × Nat) := [(x, r), (x, r + 1)]
def osCh (x b : Nat) : List (Nat × Nat) := osRw x b ++ osRw x (b + 2) ++ osRw x (b + 4) ++ osRw x (b + 6) ++ osRw x (b + 8) ++ osRw x (b + 10) ++ osRw x (b + 12)
def osSt (x : Nat) : List (Nat × Nat) := (x, 0) :: ((x, 1) :: osCh x 4 ++ (x, 2) :: osCh x 18 ++ [(x, 3)])
def osAs (x : Nat) : List (Nat × Nat) := (x, 0) :: (osRw x 4 ++ osRw x 6 ++ osRw x 8 ++ osRw x 10)
def osHi : Nat → List (Nat × Nat)
  | 0 => []
  | i + 1 => osHi i ++ osSt i
def osO : List (Nat × Nat) := (13, 0) :: ((14, 0) :: osRw 14 4 ++ osRw 13 4 ++ osRw 13 6 ++ osRw 13 8 ++ osRw 13 10)
def osMn : List (Nat × Nat) := [] ++ osSt 9 ++ osSt 10 ++ (18, 0) :: (18, 1) :: osHi 9 ++ osAs 11 ++ osAs 12 ++ osO ++ (15, 0) :: osRw 15 4 ++ (16, 0) :: (osRw 16 4 ++ osRw 16 6)
def osW : List (Nat × Nat) := (17, 0) :: osMn
theorem osW_mem : ∀ o ∈ zL, o ∈ osW := by decide +kernel
theorem zL_nodup : zL.Nodup := by decide +kernel
theorem mtAt.rf {E : ZE} {o : Nat × Nat} {x : va_E} (h : x = zcell E M0 o.1 o.2) : mtAt E o (za E o.1 o.2, x) := ⟨rfl, fun H hq => by rw [← h]; exact hq⟩
section WORLD0
variable {E0 : ZE} {q : Nat} {a : Nat → Nat → Nat}
theorem seg_st (x : Nat) (hx : x ≤ 10) : Mw (setA E0 (aaF q a)) (osSt x) ((a x 0, st0 (a x)) :: stL E0 (a x)) := by
  rcases (show x = 0 ∨ x = 1 ∨ x = 2 ∨ x = 3 ∨ x = 4 ∨ x = 5 ∨ x = 6 ∨ x = 7 ∨ x = 8 ∨ x = 9 ∨ x = 10 by omega) with rfl | rfl | rfl | rfl | rfl | rfl | rfl | rfl | rfl | rfl | rfl <;>
    exact ⟨mtAt.rf rfl, mtAt.rf rfl, mtAt.rf rfl, mtAt.rf rfl, mtAt.rf rfl, mtAt.rf rfl, mtAt.rf rfl, mtAt.rf rfl, mtAt.rf rfl, mtAt.rf rfl, mtAt.rf rfl, mtAt.rf rfl, mtAt.rf rfl, mtAt.rf rfl, mtAt.rf rfl, mtAt.rf rfl, mtAt.rf rfl, mtAt.rf rfl, mtAt.rf rfl, mtAt.rf rfl, mtAt.rf rfl, mtAt.rf rfl, mtAt.rf rfl, mtAt.rf rfl, mtAt.rf rfl, mtAt.rf rfl, mtAt.rf rfl, mtAt.rf rfl, mtAt.rf rfl, mtAt.rf rfl, mtAt.rf rfl, mtAt.rf rfl, trivial⟩
theorem seg_hi : ∀ i, i ≤ 9 → Mw (setA E0 (aaF q a)) (osHi i) (hiS E0 a i)
  | 0, _ => trivial
  | i + 1, h => (seg_hi i (by omega)).app (seg_st i (by omega))
theorem seg_as (x : Nat) (hx : x = 11 ∨ x = 12) : Mw (setA E0 (aaF q a)) (osAs x) ((a x 0, as0 (a x)) :: asL E0 (a x)) := by
  rcases hx with rfl | rfl <;>
    exact ⟨mtAt.rf rfl, mtAt.rf rfl, mtAt.rf rfl, mtAt.rf rfl, mtAt.rf rfl, mtAt.rf rfl, mtAt.rf rfl, mtAt.rf rfl, mtAt.rf rfl, trivial⟩
theorem seg_or : Mw (setA E0 (aaF q a)) osO ((a 13 0, or0 (orB a)) :: orL E0 (orB a)) :=
  ⟨mtAt.rf rfl, mtAt.rf rfl, mtAt.rf rfl, mtAt.rf rfl, mtAt.rf rfl, mtAt.rf rfl, mtAt.rf rfl, mtAt.rf rfl, mtAt.rf rfl, mtAt.rf rfl, mtAt.rf rfl, mtAt.rf rfl, trivial⟩
theorem seg_sg : Mw (setA E0 (aaF q a)) ((15, 0) :: osRw 15 4) ((a 15 0, sg0 (a 15) 80) :: sgL E0 (a 15) 80) := ⟨mtAt.rf rfl, mtAt.rf rfl, mtAt.rf rfl, trivial⟩
theorem seg_re : Mw (setA E0 (aaF q a)) ((16, 0) :: (osRw 16 4 ++ osRw 16 6)) ((a 16 0, re0 (a 16)) :: reL E0 (a 16)) := ⟨mtAt.rf rfl, mtAt.rf rfl, mtAt.rf rfl, mtAt.rf rfl, mtAt.rf rfl, trivial⟩
theorem hiG_at (a : Nat → Nat → Nat) : ∀ i k, hiG a i k = if k < i then some (a k 0) else none
  | 0, k => by rw [if_neg (Nat.not_lt_zero k)]; rfl
  | i + 1, k => by
    show va_up (hiG a i) i (some (a i 0)) k = _
    unfold va_up
    by_cases h : k = i
    · subst h; rw [if_pos rfl, if_pos (Nat.lt_succ_self k)]
    · rw [if_neg h, hiG_at a i k]
      by_cases h2 : k < i
      · rw [if_pos h2, if_pos (by omega)]
      · rw [if_neg h2, if_neg (by omega)]
theorem seg_18 : Mw (setA E0 (aaF q a)) [(18, 0), (18, 1)] [(a 18 0, .inr (3, [.ref (a 18 1), .int 0, .int 0])), (a 18 1, .inl (zcS E0, 9, .inr (.inr (.inr (.inr (hiG a 9))))))] := by
  refine ⟨mtAt.rf rfl, ⟨rfl, fun H h => ?_⟩, trivial⟩
  have h1 : H[a 18 1]? = some (vp_cell (zcS E0) (9, .inr (.inr (.inr (.inr (hiG a 9)))))) := h
  show H[a 18 1]? = some (vp_cell (zcS E0) (9, .inr (.inr (.inr (.inr (fun k => some (aaF q a k 0)))))))
  rw [h1, vp_cell_q, vp_cell_q]
  refine congrArg some (arrV_congr (fun k hk => ?_))
  rw [hiG_at, if_pos hk]
  unfold aaF
  rw [if_neg (by omega)]
theorem seg_mn : Mw (setA E0 (aaF q a)) osMn (mnL E0 a) :=
  (((((((((show Mw _ [] [] from trivial).app (seg_st 9 (by decide))).app (seg_st 10 (by decide))).app (seg_18.app (seg_hi 9 (by decide)))).app (seg_as 11 (Or.inl rfl))).app (seg_as 12 (Or.inr rfl))).app seg_or).app seg_sg).app seg_re)
theorem seg_all : Mw (setA E0 (aaF q a)) osW ((q, .inr (10, [.ref (a 9 0), .ref (a 10 0), .int 0, .ref (a 18 0), .ref (a 11 0), .ref (a 12 0), .ref (a 13 0), .ref (a 15 0), .ref (a 16 0)])) :: mnL E0 a) := ⟨mtAt.rf rfl, seg_mn⟩
end WORLD0
