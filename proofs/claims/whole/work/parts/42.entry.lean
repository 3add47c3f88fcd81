/-! ===== the law, from its entry ===== -/
set_option maxHeartbeats 4000000 in
set_option maxRecDepth 100000 in
theorem st_E {s : State} {b : Nat} (l : Launch) (hts0 : ∀ w ∈ lw_tbl, w.before #[Value.ref b] s = true) (hgv : (Jvm.Cond.and given_1 narrow_1).before #[Value.ref b] s = true) : ∃ E0 : ZE, zl E0 = l ∧ zA E0 = (fun q : Nat => s.heap.size ≤ q) ∧ va_K (zD E0) vwCl (tysE E0) s ∧ Nst s ∧ AOI s ∧ Sx E0 s s.heap := by
  have hts : ∀ w ∈ wsL_law, w.before #[Value.ref b] s = true := fun w h => hts0 w (wsL_law_in w h)
  have hfl := flat_of_before _ hgv
  have hnA : ∀ a : Nat, a < s.heap.size → ¬ (fun q : Nat => s.heap.size ≤ q) a := fun a h => Nat.not_le.mpr h
  have hk : ∀ k : Nat, ∃ (cC : ClassId) (iS : Nat → Nat), ∀ q : vw_C, vwCl[k]? = some q → u_Kn s q.1 q.2.1 q.2.2 cC iS := by
    intro k
    match k with
    | 0 =>
      obtain ⟨c, j, h⟩ := u_known (C := RX0) (T := TX0) (N := 4) (n := 4) hts inlX0 (hts _ gw_22)
      exact ⟨c, j, fun q hq => by cases hq; exact h⟩
    | 1 =>
      obtain ⟨c, j, h⟩ := u_known (C := RX1) (T := TX1) (N := 7) (n := 7) hts inlX1 (hts _ gw_50)
      exact ⟨c, j, fun q hq => by cases hq; exact h⟩
    | 2 =>
      obtain ⟨c, j, h⟩ := u_known (C := RX2) (T := TX2) (N := 8) (n := 8) hts inlX2 (hts _ gw_42)
      exact ⟨c, j, fun q hq => by cases hq; exact h⟩
    | 3 =>
      obtain ⟨c, j, h⟩ := u_known (C := RX3) (T := TX3) (N := 3) (n := 3) hts inlX3 (hts _ gw_18)
      exact ⟨c, j, fun q hq => by cases hq; exact h⟩
    | 4 =>
      obtain ⟨c, j, h⟩ := u_known (C := RX4) (T := TX4) (N := 8) (n := 8) hts inlX4 (hts _ gw_46)
      exact ⟨c, j, fun q hq => by cases hq; exact h⟩
    | 5 =>
      obtain ⟨c, j, h⟩ := u_known (C := RX5) (T := TX5) (N := 7) (n := 7) hts inlX5 (hts _ gw_27)
      exact ⟨c, j, fun q hq => by cases hq; exact h⟩
    | 6 =>
      obtain ⟨c, j, h⟩ := u_known (C := RX6) (T := TX6) (N := 3) (n := 3) hts inlX6 (hts _ gw_35)
      exact ⟨c, j, fun q hq => by cases hq; exact h⟩
    | 7 =>
      obtain ⟨c, j, h⟩ := u_known (C := RX7) (T := TX7) (N := 1) (n := 1) hts inlX7 (hts _ gw_57)
      exact ⟨c, j, fun q hq => by cases hq; exact h⟩
    | 8 =>
      obtain ⟨c, j, h⟩ := u_known (C := RX8) (T := TX8) (N := 3) (n := 3) hts inlX8 (hts _ gw_31)
      exact ⟨c, j, fun q hq => by cases hq; exact h⟩
    | 9 =>
      obtain ⟨c, j, h⟩ := u_known (C := RX9) (T := TX9) (N := 3) (n := 3) hts inlX9 (hts _ gw_13)
      exact ⟨c, j, fun q hq => by cases hq; exact h⟩
    | 10 =>
      obtain ⟨c, j, h⟩ := u_known (C := RX10) (T := TX10) (N := 9) (n := 9) hts inlX10 (hts _ gw_1)
      exact ⟨c, j, fun q hq => by cases hq; exact h⟩
    | 11 =>
      obtain ⟨c, j, h⟩ := u_known (C := RX11) (T := TX11) (N := 22) (n := 22) hts inlX11 (hts _ gw_4)
      exact ⟨c, j, fun q hq => by cases hq; exact h⟩
    | k + 12 => exact ⟨(0 : Nat), fun _ => 0, fun q hq => by simp at hq⟩
  obtain ⟨cI, kI, xI, i1, i2, i3⟩ := Cond.arrayClass_spec (hts _ gw_74)
  obtain ⟨cC, kC, xC, c1, c2, c3⟩ := Cond.arrayClass_spec (hts _ gw_147)
  have hao : (Cond.arrayOver (.object "ChairLeague$State")).before #[Value.ref b] s = true := hts0 _ (by decide +kernel)
  have hAOS : va_AO "ChairLeague$State" s := va_AO.of hao
  obtain ⟨cmS, cS, kS, s1, -, s3, s4, s5⟩ := Cond.arrayOver_spec hao
  have hAI : AOI s := AOI.of (hts0 (.arrayOver (.array .int)) (by decide +kernel))
  obtain ⟨cmN, cN, kN, n1, n3, n4, n5⟩ := id hAI
  obtain ⟨adK, adV, hS1, hev⟩ := vk_Sof (args := #[Value.ref b]) (s := s) (N := 1) (tm := fun _ => .string "ChairLeagueModel" 205) (len := [10]) (byt := [[104, 109, 115, 114, 97, 98, 99, 112, 117, 116]]) (A := fun q : Nat => s.heap.size ≤ q) (fun i hi => by rcases (show i = 0 by omega) with rfl; decide) (fun i hi => hfl _ (by decide +kernel)) (fun i hi => hfl _ (by decide +kernel)) (fun i hi => hfl _ (by decide +kernel)) (fun i hi => by rcases (show i = 0 by omega) with rfl; exact hfl _ (by decide +kernel))
    (fun i hi j hj => by
      rcases (show i = 0 by omega) with rfl
      have hj : j < 10 := hj
      rcases (show j = 0 ∨ j = 1 ∨ j = 2 ∨ j = 3 ∨ j = 4 ∨ j = 5 ∨ j = 6 ∨ j = 7 ∨ j = 8 ∨ j = 9 by omega) with rfl | rfl | rfl | rfl | rfl | rfl | rfl | rfl | rfl | rfl <;> exact hfl _ (by decide +kernel))
    (fun i j hi hj h => absurd (show i = j by omega) h) hnA
  refine ⟨(l, (fun k => (hk k).choose, fun k => (hk k).choose_spec.choose), (fun _ _ => 0), (fun q : Nat => s.heap.size ≤ q), cI, cC, cS, cN, adK 0, adV 0), rfl, rfl, ⟨fun k q hq => (hk k).choose_spec.choose_spec q hq, fun k q hq => ?_⟩, ⟨fun q hq => ?_, hAOS⟩, hAI, ⟨⟨fun i hi => ?_, fun i j hi hj _ => by omega⟩, va_Zof (hts0 (.laysStatic "java/lang/String" "COMPACT_STRINGS" "Z") (by decide +kernel)) (hts0 (.initialized "java/lang/String") (by decide +kernel)) (va_eqi (hfl _ (by decide +kernel))) hnA, vk_R.of (hts0 (.stringRef "ChairLeagueModel" 205 "hmsrabcput") (by decide +kernel)) (hev 0 (by decide))⟩⟩
  · match k, hq with
    | 0, hq => cases hq; exact ⟨fun N z => ⟨(fun k h => by cases h), kI, i2, xI, i3⟩, i1⟩
    | 1, hq => cases hq; exact ⟨fun N z => ⟨(fun k h => by cases h), kC, c2, xC, c3⟩, c1⟩
    | 2, hq => cases hq; exact ⟨fun N z => ⟨(fun k h => by cases h), kS, s3, cmS, s4⟩, kS, cmS, s3, s4, s1, s5⟩
    | 3, hq => cases hq; exact ⟨fun N z => ⟨(fun k h => by cases h), kN, n3, cmN, n4⟩, n5⟩
    | k + 4, hq => simp [tysE] at hq
  · have hw : ∀ q ∈ nstL, (Cond.methodLinkNest q.1 q.2.1 q.2.2 "ChairLeague") ∈ lw_tbl := by decide +kernel
    exact va_Nw.of rfl (hts0 _ (hw q hq))
  · rcases (show i = 0 by omega) with rfl
    exact hS1.1 0 hi
