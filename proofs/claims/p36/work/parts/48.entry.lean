/-! ===== the law, from its entry ===== -/
theorem ev_L {args : Array Value} {s : State} {t u : Term} {a : Nat} (h : (Cond.eq t u).before args s = true) (hu : u.eval args s none [] s = some (.ref a)) : t.eval args s none [] s = some (.ref a) := by
  cases hv : t.eval args s none [] s with
  | none => simp [Cond.before, Cond.holds, Cond.value, hv] at h
  | some w =>
    simp only [Cond.before, Cond.holds, Cond.value, hv, hu] at h
    cases w <;> simp_all
abbrev txN (i : Nat) : Term := .string "ChairLeagueLaw" (174 + 2 * i)
abbrev TXS : Term := .static "ChairLeagueLaw" "TEXTS" "[Ljava/lang/String;"
theorem en_ex : ∀ i, i < 30 → Cond.exactly (txN i) "java/lang/String" ∈ flatC (Jvm.Cond.and given_1 narrow_1) := by decide +kernel
theorem en_co : ∀ i, i < 30 → Cond.eq (.field (txN i) "java/lang/String" "coder" "B") (.int 0) ∈ flatC (Jvm.Cond.and given_1 narrow_1) := by decide +kernel
theorem en_ar : ∀ i, i < 30 → Cond.arrayOf (.field (txN i) "java/lang/String" "value" "[B") .byte ∈ flatC (Jvm.Cond.and given_1 narrow_1) := by decide +kernel
theorem en_le : ∀ i, i < 30 → Cond.eq (.length (.field (txN i) "java/lang/String" "value" "[B")) (.int (Int32.ofNat (txt i).length)) ∈ flatC (Jvm.Cond.and given_1 narrow_1) := by decide +kernel
theorem en_el : ∀ i, i < 30 → ∀ j, j < (txt i).length → Cond.eq (.elem (.field (txN i) "java/lang/String" "value" "[B") (.int (Int32.ofNat j))) (.int ((txt i).getD j 0)) ∈ flatC (Jvm.Cond.and given_1 narrow_1) := by decide +kernel
theorem en_tx : ∀ i, i < 30 → Cond.eq (.elem TXS (.int (Int32.ofNat i))) (txN i) ∈ flatC (Jvm.Cond.and given_1 narrow_1) := by decide +kernel
theorem en_1 : Cond.arrayOf TXS (.object "java/lang/String") ∈ flatC (Jvm.Cond.and given_1 narrow_1) := by decide +kernel
theorem en_2 : Cond.eq (.length TXS) (.int 30) ∈ flatC (Jvm.Cond.and given_1 narrow_1) := by decide +kernel
theorem en_3 : Cond.eq (.static "java/lang/String" "COMPACT_STRINGS" "Z") (.int 1) ∈ flatC (Jvm.Cond.and given_1 narrow_1) := by decide +kernel
theorem en_4 : Cond.isRef (.static "jdk/internal/util/Preconditions" "SIOOBE_FORMATTER" "Ljava/util/function/BiFunction;") ∈ flatC (Jvm.Cond.and given_1 narrow_1) := by decide +kernel
set_option maxHeartbeats 4000000 in
set_option maxRecDepth 100000 in
theorem st_E {s : State} {b : Nat} (l : Launch) (hts0 : ∀ w ∈ lw_tbl, w.before #[Value.ref b] s = true) (hgv : (Jvm.Cond.and given_1 narrow_1).before #[Value.ref b] s = true) : ∃ E0 : ZE, zl E0 = l ∧ zA E0 = (fun q : Nat => s.heap.size ≤ q) ∧ va_K (zD E0) vwCl (tysE E0) s ∧ Nst s ∧ Sx E0 s s.heap := by
  have hts : ∀ w ∈ wsL_law, w.before #[Value.ref b] s = true := fun w h => hts0 w (wsL_law_in w h)
  have hfl := flat_of_before _ hgv
  have hnA : ∀ a : Nat, a < s.heap.size → ¬ (fun q : Nat => s.heap.size ≤ q) a := fun a h => Nat.not_le.mpr h
  have hk : ∀ k : Nat, ∃ (cC : ClassId) (iS : Nat → Nat), ∀ q : vw_C, vwCl[k]? = some q → u_Kn s q.1 q.2.1 q.2.2 cC iS := by
    intro k
    match k with
    | 0 =>
      obtain ⟨c, j, h⟩ := u_known (C := RX0) (T := TX0) (N := 4) (n := 4) hts inlX0 (hts _ gw_20)
      exact ⟨c, j, fun q hq => by cases hq; exact h⟩
    | 1 =>
      obtain ⟨c, j, h⟩ := u_known (C := RX1) (T := TX1) (N := 7) (n := 7) hts inlX1 (hts _ gw_48)
      exact ⟨c, j, fun q hq => by cases hq; exact h⟩
    | 2 =>
      obtain ⟨c, j, h⟩ := u_known (C := RX2) (T := TX2) (N := 8) (n := 8) hts inlX2 (hts _ gw_40)
      exact ⟨c, j, fun q hq => by cases hq; exact h⟩
    | 3 =>
      obtain ⟨c, j, h⟩ := u_known (C := RX3) (T := TX3) (N := 3) (n := 3) hts inlX3 (hts _ gw_16)
      exact ⟨c, j, fun q hq => by cases hq; exact h⟩
    | 4 =>
      obtain ⟨c, j, h⟩ := u_known (C := RX4) (T := TX4) (N := 8) (n := 8) hts inlX4 (hts _ gw_44)
      exact ⟨c, j, fun q hq => by cases hq; exact h⟩
    | 5 =>
      obtain ⟨c, j, h⟩ := u_known (C := RX5) (T := TX5) (N := 7) (n := 7) hts inlX5 (hts _ gw_25)
      exact ⟨c, j, fun q hq => by cases hq; exact h⟩
    | 6 =>
      obtain ⟨c, j, h⟩ := u_known (C := RX6) (T := TX6) (N := 3) (n := 3) hts inlX6 (hts _ gw_33)
      exact ⟨c, j, fun q hq => by cases hq; exact h⟩
    | 7 =>
      obtain ⟨c, j, h⟩ := u_known (C := RX7) (T := TX7) (N := 1) (n := 1) hts inlX7 (hts _ gw_55)
      exact ⟨c, j, fun q hq => by cases hq; exact h⟩
    | 8 =>
      obtain ⟨c, j, h⟩ := u_known (C := RX8) (T := TX8) (N := 3) (n := 3) hts inlX8 (hts _ gw_29)
      exact ⟨c, j, fun q hq => by cases hq; exact h⟩
    | 9 =>
      obtain ⟨c, j, h⟩ := u_known (C := RX9) (T := TX9) (N := 3) (n := 3) hts inlX9 (hts _ gw_11)
      exact ⟨c, j, fun q hq => by cases hq; exact h⟩
    | 10 =>
      obtain ⟨c, j, h⟩ := u_known (C := RX10) (T := TX10) (N := 9) (n := 9) hts inlX10 (hts _ gw_1)
      exact ⟨c, j, fun q hq => by cases hq; exact h⟩
    | k + 11 => exact ⟨(0 : Nat), fun _ => 0, fun q hq => by simp at hq⟩
  obtain ⟨cI, kI, xI, i1, i2, i3⟩ := Cond.arrayClass_spec (hts _ gw_72)
  have hao : (Cond.arrayOver (.object "ChairLeague$State")).before #[Value.ref b] s = true := hts0 _ (by decide +kernel)
  have hAOS : va_AO "ChairLeague$State" s := va_AO.of hao
  obtain ⟨cmS, cS, kS, s1, -, s3, s4, s5⟩ := Cond.arrayOver_spec hao
  have hstr : ∀ i : Nat, ∃ q : Nat × Nat, i < 30 → vk_S 1 [(txt i).length] [txt i] (fun _ => q.1) (fun _ => q.2) (fun q : Nat => s.heap.size ≤ q) s s.heap ∧ (txN i).eval #[Value.ref b] s none [] s = some (.ref q.1) := by
    intro i
    by_cases hi : i < 30
    · have hl := txt_len i hi
      obtain ⟨adK, adV, hS1, hev⟩ := vk_Sof (args := #[Value.ref b]) (s := s) (N := 1) (tm := fun _ => txN i) (len := [(txt i).length]) (byt := [txt i]) (A := fun q : Nat => s.heap.size ≤ q)
        (fun k hk => by rcases (show k = 0 by omega) with rfl; show (txt i).length < 2 ^ 31; omega) (fun k hk => hfl _ (en_ex i hi)) (fun k hk => hfl _ (en_co i hi)) (fun k hk => hfl _ (en_ar i hi)) (fun k hk => by rcases (show k = 0 by omega) with rfl; exact hfl _ (en_le i hi))
        (fun k hk j hj => by rcases (show k = 0 by omega) with rfl; exact hfl _ (en_el i hi j hj)) (fun k j hk hj h => absurd (show k = j by omega) h) hnA
      refine ⟨(adK 0, adV 0), fun _ => ⟨⟨fun k hk => ?_, fun k j hk hj _ => by omega⟩, hev 0 (by decide)⟩⟩
      rcases (show k = 0 by omega) with rfl
      exact hS1.1 0 hk
    · exact ⟨(0, 0), fun h => absurd h hi⟩
  obtain ⟨ad, had⟩ := Classical.axiomOfChoice hstr
  obtain ⟨tT, htT, hTT⟩ := va_Tof (args := #[Value.ref b]) (s := s) (tm := TXS) (ty := .object "java/lang/String") (N := 30) (f := fun i => .ref (ad i).1) (A := fun q : Nat => s.heap.size ≤ q) (by decide) (hfl _ en_1) (va_eqt (hfl _ en_2)) (fun j hj => ev_L (hfl _ (en_tx j hj)) (had j hj).2) hnA
  refine ⟨(l, (fun k => (hk k).choose, fun k => (hk k).choose_spec.choose), (fun _ _ => 0), (fun q : Nat => s.heap.size ≤ q), cI, cS, (fun i => (ad i).1), (fun i => (ad i).2), tT), rfl, rfl, ⟨fun k q hq => (hk k).choose_spec.choose_spec q hq, fun k q hq => ?_⟩, ⟨fun q hq => ?_, hAOS⟩, ⟨fun i hi => (had i hi).1, va_Zof (hts0 (.laysStatic "java/lang/String" "COMPACT_STRINGS" "Z") (by decide +kernel)) (hts0 (.initialized "java/lang/String") (by decide +kernel)) (va_eqi (hfl _ en_3)) hnA, va_Zof (hts0 (.laysStatic "ChairLeagueLaw" "TEXTS" "[Ljava/lang/String;") (by decide +kernel)) (hts0 (.initialized "ChairLeagueLaw") (by decide +kernel)) htT hnA, hTT, va_Zqof (hts0 (.laysStatic "jdk/internal/util/Preconditions" "SIOOBE_FORMATTER" "Ljava/util/function/BiFunction;") (by decide +kernel)) (hts0 (.initialized "jdk/internal/util/Preconditions") (by decide +kernel)) (hfl _ en_4) hnA⟩⟩
  · match k, hq with
    | 0, hq => cases hq; exact ⟨fun N z => ⟨(fun k h => by cases h), kI, i2, xI, i3⟩, i1⟩
    | 1, hq => cases hq; exact ⟨fun N z => ⟨(fun k h => by cases h), kS, s3, cmS, s4⟩, kS, cmS, s3, s4, s1, s5⟩
    | k + 2, hq => simp [tysE] at hq
  · have hw : ∀ q ∈ nstL, (Cond.methodLinkNest q.1 q.2.1 q.2.2 "ChairLeague") ∈ lw_tbl := by decide +kernel
    exact va_Nw.of rfl (hts0 _ (hw q hq))
def S0 : LSt := (gX (M0 9), [], [], [], [], none)
theorem XS_0 : XS M0 S0 := ⟨rfl, ⟨0, ⟨rfl, by decide, rfl, Nat.zero_le _, fun i hi => absurd hi (Nat.not_lt_zero i)⟩⟩, ⟨rfl, Nat.zero_le _, fun i hi => absurd hi (Nat.not_lt_zero i)⟩, ⟨rfl, Nat.zero_le _, fun i hi => absurd hi (Nat.not_lt_zero i)⟩, ⟨rfl, Nat.zero_le _, fun i hi => absurd hi (Nat.not_lt_zero i)⟩, rfl⟩
theorem LQ_0 : LQ S0 0 := fun h hh => by
  rcases hh with e | e | e
  · rw [e]
    exact ⟨0, 0, ⟨⟨rfl, rfl, Nat.zero_le _, Nat.zero_le _⟩, fun c hc => absurd hc (Nat.not_lt_zero c), fun c hc => absurd hc (Nat.not_lt_zero c), ⟨fun m c hm => absurd hm (Nat.not_lt_zero m), fun c hc => absurd hc (Nat.not_lt_zero c)⟩, ⟨10, Nat.zero_le _, Nat.le_refl _, rfl⟩, rfl, Nat.zero_le _⟩, fun c m hc => absurd hc (Nat.not_lt_zero c)⟩
  · exact absurd e List.not_mem_nil
  · cases e
