/-! the cells by name; comparisons of counted numbers -/
theorem zk_9_0 : zkd 9 0 ≠ 0 := by decide
theorem zc_9_0 (E : ZE) (M : Mem) : zcell E M 9 0 = .inr (9, [.ref (za E 9 1), .ref (za E 9 2), .ref (za E 9 3)]) := rfl
theorem zk_9_1 : zkd 9 1 ≠ 0 := by decide
theorem zc_9_1 (E : ZE) (M : Mem) : zcell E M 9 1 = .inr (2, [.int (M 9 1 0), .ref (za E 9 4), .ref (za E 9 6), .ref (za E 9 8), .ref (za E 9 10), .ref (za E 9 12), .ref (za E 9 14), .ref (za E 9 16)]) := rfl
theorem zk_9_2 : zkd 9 2 ≠ 0 := by decide
theorem zc_9_2 (E : ZE) (M : Mem) : zcell E M 9 2 = .inr (4, [.int (M 9 2 0), .ref (za E 9 18), .ref (za E 9 20), .ref (za E 9 22), .ref (za E 9 24), .ref (za E 9 26), .ref (za E 9 28), .ref (za E 9 30)]) := rfl
theorem zk_9_3 : zkd 9 3 ≠ 0 := by decide
theorem zc_9_3 (E : ZE) (M : Mem) : zcell E M 9 3 = .inr (1, [.int (M 9 3 0), .int (M 9 3 1), .int (M 9 3 2), .int (M 9 3 3), .int (M 9 3 4), .int (M 9 3 5), .int (M 9 3 6)]) := rfl
theorem zk_9_4 : zkd 9 4 ≠ 0 := by decide
theorem zc_9_4 (E : ZE) (M : Mem) : zcell E M 9 4 = .inr (7, [.ref (za E 9 5)]) := rfl
theorem zk_9_6 : zkd 9 6 ≠ 0 := by decide
theorem zc_9_6 (E : ZE) (M : Mem) : zcell E M 9 6 = .inr (7, [.ref (za E 9 7)]) := rfl
theorem zk_9_8 : zkd 9 8 ≠ 0 := by decide
theorem zc_9_8 (E : ZE) (M : Mem) : zcell E M 9 8 = .inr (7, [.ref (za E 9 9)]) := rfl
theorem zk_9_10 : zkd 9 10 ≠ 0 := by decide
theorem zc_9_10 (E : ZE) (M : Mem) : zcell E M 9 10 = .inr (7, [.ref (za E 9 11)]) := rfl
theorem zk_9_12 : zkd 9 12 ≠ 0 := by decide
theorem zc_9_12 (E : ZE) (M : Mem) : zcell E M 9 12 = .inr (7, [.ref (za E 9 13)]) := rfl
theorem zk_9_14 : zkd 9 14 ≠ 0 := by decide
theorem zc_9_14 (E : ZE) (M : Mem) : zcell E M 9 14 = .inr (7, [.ref (za E 9 15)]) := rfl
theorem zk_9_16 : zkd 9 16 ≠ 0 := by decide
theorem zc_9_16 (E : ZE) (M : Mem) : zcell E M 9 16 = .inr (7, [.ref (za E 9 17)]) := rfl
theorem zk_9_18 : zkd 9 18 ≠ 0 := by decide
theorem zc_9_18 (E : ZE) (M : Mem) : zcell E M 9 18 = .inr (7, [.ref (za E 9 19)]) := rfl
theorem zk_9_20 : zkd 9 20 ≠ 0 := by decide
theorem zc_9_20 (E : ZE) (M : Mem) : zcell E M 9 20 = .inr (7, [.ref (za E 9 21)]) := rfl
theorem zk_9_22 : zkd 9 22 ≠ 0 := by decide
theorem zc_9_22 (E : ZE) (M : Mem) : zcell E M 9 22 = .inr (7, [.ref (za E 9 23)]) := rfl
theorem zk_9_24 : zkd 9 24 ≠ 0 := by decide
theorem zc_9_24 (E : ZE) (M : Mem) : zcell E M 9 24 = .inr (7, [.ref (za E 9 25)]) := rfl
theorem zk_9_26 : zkd 9 26 ≠ 0 := by decide
theorem zc_9_26 (E : ZE) (M : Mem) : zcell E M 9 26 = .inr (7, [.ref (za E 9 27)]) := rfl
theorem zk_9_28 : zkd 9 28 ≠ 0 := by decide
theorem zc_9_28 (E : ZE) (M : Mem) : zcell E M 9 28 = .inr (7, [.ref (za E 9 29)]) := rfl
theorem zk_9_30 : zkd 9 30 ≠ 0 := by decide
theorem zc_9_30 (E : ZE) (M : Mem) : zcell E M 9 30 = .inr (7, [.ref (za E 9 31)]) := rfl
theorem zk_11_0 : zkd 11 0 ≠ 0 := by decide
theorem zc_11_0 (E : ZE) (M : Mem) : zcell E M 11 0 = .inr (0, [.ref (za E 11 4), .ref (za E 11 6), .ref (za E 11 8), .ref (za E 11 10)]) := rfl
theorem zk_11_4 : zkd 11 4 ≠ 0 := by decide
theorem zc_11_4 (E : ZE) (M : Mem) : zcell E M 11 4 = .inr (7, [.ref (za E 11 5)]) := rfl
theorem zk_11_6 : zkd 11 6 ≠ 0 := by decide
theorem zc_11_6 (E : ZE) (M : Mem) : zcell E M 11 6 = .inr (7, [.ref (za E 11 7)]) := rfl
theorem zk_11_8 : zkd 11 8 ≠ 0 := by decide
theorem zc_11_8 (E : ZE) (M : Mem) : zcell E M 11 8 = .inr (7, [.ref (za E 11 9)]) := rfl
theorem zk_11_10 : zkd 11 10 ≠ 0 := by decide
theorem zc_11_10 (E : ZE) (M : Mem) : zcell E M 11 10 = .inr (7, [.ref (za E 11 11)]) := rfl
theorem zk_12_0 : zkd 12 0 ≠ 0 := by decide
theorem zc_12_0 (E : ZE) (M : Mem) : zcell E M 12 0 = .inr (0, [.ref (za E 12 4), .ref (za E 12 6), .ref (za E 12 8), .ref (za E 12 10)]) := rfl
theorem zk_12_4 : zkd 12 4 ≠ 0 := by decide
theorem zc_12_4 (E : ZE) (M : Mem) : zcell E M 12 4 = .inr (7, [.ref (za E 12 5)]) := rfl
theorem zk_12_6 : zkd 12 6 ≠ 0 := by decide
theorem zc_12_6 (E : ZE) (M : Mem) : zcell E M 12 6 = .inr (7, [.ref (za E 12 7)]) := rfl
theorem zk_12_8 : zkd 12 8 ≠ 0 := by decide
theorem zc_12_8 (E : ZE) (M : Mem) : zcell E M 12 8 = .inr (7, [.ref (za E 12 9)]) := rfl
theorem zk_12_10 : zkd 12 10 ≠ 0 := by decide
theorem zc_12_10 (E : ZE) (M : Mem) : zcell E M 12 10 = .inr (7, [.ref (za E 12 11)]) := rfl
theorem zk_13_0 : zkd 13 0 ≠ 0 := by decide
theorem zc_13_0 (E : ZE) (M : Mem) : zcell E M 13 0 = .inr (5, [.ref (za E 14 0), .ref (za E 13 4), .ref (za E 13 6), .ref (za E 13 8), .ref (za E 13 10), .int (M 13 0 5), .int (M 13 0 6)]) := rfl
theorem zk_13_4 : zkd 13 4 ≠ 0 := by decide
theorem zc_13_4 (E : ZE) (M : Mem) : zcell E M 13 4 = .inr (7, [.ref (za E 13 5)]) := rfl
theorem zk_13_6 : zkd 13 6 ≠ 0 := by decide
theorem zc_13_6 (E : ZE) (M : Mem) : zcell E M 13 6 = .inr (7, [.ref (za E 13 7)]) := rfl
theorem zk_13_8 : zkd 13 8 ≠ 0 := by decide
theorem zc_13_8 (E : ZE) (M : Mem) : zcell E M 13 8 = .inr (7, [.ref (za E 13 9)]) := rfl
theorem zk_13_10 : zkd 13 10 ≠ 0 := by decide
theorem zc_13_10 (E : ZE) (M : Mem) : zcell E M 13 10 = .inr (7, [.ref (za E 13 11)]) := rfl
theorem zk_14_0 : zkd 14 0 ≠ 0 := by decide
theorem zc_14_0 (E : ZE) (M : Mem) : zcell E M 14 0 = .inr (8, [.int (nI 60), .ref (za E 14 4), .int (M 14 0 2)]) := rfl
theorem zk_14_4 : zkd 14 4 ≠ 0 := by decide
theorem zc_14_4 (E : ZE) (M : Mem) : zcell E M 14 4 = .inr (7, [.ref (za E 14 5)]) := rfl
theorem zk_15_0 : zkd 15 0 ≠ 0 := by decide
theorem zc_15_0 (E : ZE) (M : Mem) : zcell E M 15 0 = .inr (8, [.int (nI 80), .ref (za E 15 4), .int (M 15 0 2)]) := rfl
theorem zk_15_4 : zkd 15 4 ≠ 0 := by decide
theorem zc_15_4 (E : ZE) (M : Mem) : zcell E M 15 4 = .inr (7, [.ref (za E 15 5)]) := rfl
theorem zk_16_0 : zkd 16 0 ≠ 0 := by decide
theorem zc_16_0 (E : ZE) (M : Mem) : zcell E M 16 0 = .inr (6, [.ref (za E 16 4), .ref (za E 16 6), .int (M 16 0 2)]) := rfl
theorem zk_16_4 : zkd 16 4 ≠ 0 := by decide
theorem zc_16_4 (E : ZE) (M : Mem) : zcell E M 16 4 = .inr (7, [.ref (za E 16 5)]) := rfl
theorem zk_16_6 : zkd 16 6 ≠ 0 := by decide
theorem zc_16_6 (E : ZE) (M : Mem) : zcell E M 16 6 = .inr (7, [.ref (za E 16 7)]) := rfl
theorem zk_17_0 : zkd 17 0 ≠ 0 := by decide
theorem zc_17_0 (E : ZE) (M : Mem) : zcell E M 17 0 = .inr (10, [.ref (za E 9 0), .ref (za E 10 0), .int (M 17 0 2), .ref (za E 18 0), .ref (za E 11 0), .ref (za E 12 0), .ref (za E 13 0), .ref (za E 15 0), .ref (za E 16 0)]) := rfl
theorem zk_18_0 : zkd 18 0 ≠ 0 := by decide
theorem zc_18_0 (E : ZE) (M : Mem) : zcell E M 18 0 = .inr (3, [.ref (za E 18 1), .int (M 18 0 1), .int (M 18 0 2)]) := rfl
section ZN
variable {g : ZG} {E : ZE} {own : String} {cc : ByteArray} {nL : Nat} {rm : Room} {M : Mem} {lv : List (Nat × Value)} {pc : Nat} {st : List Value}
theorem z_nicmp_eq (X : Cb g E own cc nL rm) {a b : Nat} {off : Int} {tgt : Nat} (hd : decode cc pc = .ok (.if_icmp .eq off, 3)) (ht : (pc : Int) + off = (tgt : Int)) (ha : a < 2 ^ 31) (hb : b < 2 ^ 31) (kt : a = b → Z g E M lv tgt st) (kf : ¬ (a = b) → Z g E M lv (pc + 3) st) : Z g E M lv pc (.int (nI b) :: .int (nI a) :: st) := z_icmp_eq X hd ht (fun h => kt ((nI_eq ha hb).mp h)) (fun h => kf ((fun q => h ((nI_eq ha hb).mpr q))))
theorem z_nicmp_ne (X : Cb g E own cc nL rm) {a b : Nat} {off : Int} {tgt : Nat} (hd : decode cc pc = .ok (.if_icmp .ne off, 3)) (ht : (pc : Int) + off = (tgt : Int)) (ha : a < 2 ^ 31) (hb : b < 2 ^ 31) (kt : a ≠ b → Z g E M lv tgt st) (kf : a = b → Z g E M lv (pc + 3) st) : Z g E M lv pc (.int (nI b) :: .int (nI a) :: st) := z_icmp_ne X hd ht (fun h => kt ((not_congr (nI_eq ha hb)).mp h)) (fun h => kf ((nI_eq ha hb).mp h))
theorem z_nicmp_lt (X : Cb g E own cc nL rm) {a b : Nat} {off : Int} {tgt : Nat} (hd : decode cc pc = .ok (.if_icmp .lt off, 3)) (ht : (pc : Int) + off = (tgt : Int)) (ha : a < 2 ^ 31) (hb : b < 2 ^ 31) (kt : a < b → Z g E M lv tgt st) (kf : ¬ (a < b) → Z g E M lv (pc + 3) st) : Z g E M lv pc (.int (nI b) :: .int (nI a) :: st) := z_icmp_lt X hd ht (fun h => kt ((nI_ltI ha hb).mp h)) (fun h => kf ((fun q => h ((nI_ltI ha hb).mpr q))))
theorem z_nicmp_ge (X : Cb g E own cc nL rm) {a b : Nat} {off : Int} {tgt : Nat} (hd : decode cc pc = .ok (.if_icmp .ge off, 3)) (ht : (pc : Int) + off = (tgt : Int)) (ha : a < 2 ^ 31) (hb : b < 2 ^ 31) (kt : b ≤ a → Z g E M lv tgt st) (kf : ¬ (b ≤ a) → Z g E M lv (pc + 3) st) : Z g E M lv pc (.int (nI b) :: .int (nI a) :: st) := z_icmp_ge X hd ht (fun h => kt ((nI_leI hb ha).mp h)) (fun h => kf ((fun q => h ((nI_leI hb ha).mpr q))))
theorem z_nicmp_gt (X : Cb g E own cc nL rm) {a b : Nat} {off : Int} {tgt : Nat} (hd : decode cc pc = .ok (.if_icmp .gt off, 3)) (ht : (pc : Int) + off = (tgt : Int)) (ha : a < 2 ^ 31) (hb : b < 2 ^ 31) (kt : b < a → Z g E M lv tgt st) (kf : ¬ (b < a) → Z g E M lv (pc + 3) st) : Z g E M lv pc (.int (nI b) :: .int (nI a) :: st) := z_icmp_gt X hd ht (fun h => kt ((nI_ltI hb ha).mp h)) (fun h => kf ((fun q => h ((nI_ltI hb ha).mpr q))))
theorem z_nicmp_le (X : Cb g E own cc nL rm) {a b : Nat} {off : Int} {tgt : Nat} (hd : decode cc pc = .ok (.if_icmp .le off, 3)) (ht : (pc : Int) + off = (tgt : Int)) (ha : a < 2 ^ 31) (hb : b < 2 ^ 31) (kt : a ≤ b → Z g E M lv tgt st) (kf : ¬ (a ≤ b) → Z g E M lv (pc + 3) st) : Z g E M lv pc (.int (nI b) :: .int (nI a) :: st) := z_icmp_le X hd ht (fun h => kt ((nI_leI ha hb).mp h)) (fun h => kf ((fun q => h ((nI_leI ha hb).mpr q))))
theorem z_bicmp_eq (X : Cb g E own cc nL rm) {a b : Bool} {off : Int} {tgt : Nat} (hd : decode cc pc = .ok (.if_icmp .eq off, 3)) (ht : (pc : Int) + off = (tgt : Int)) (kt : a = b → Z g E M lv tgt st) (kf : ¬ (a = b) → Z g E M lv (pc + 3) st) : Z g E M lv pc (.int (zb b) :: .int (zb a) :: st) := z_icmp_eq X hd ht (fun h => kt ((zb_inj a b).mp h)) (fun h => kf (fun q => h (by rw [q])))
theorem z_bicmp_ne (X : Cb g E own cc nL rm) {a b : Bool} {off : Int} {tgt : Nat} (hd : decode cc pc = .ok (.if_icmp .ne off, 3)) (ht : (pc : Int) + off = (tgt : Int)) (kt : a ≠ b → Z g E M lv tgt st) (kf : a = b → Z g E M lv (pc + 3) st) : Z g E M lv pc (.int (zb b) :: .int (zb a) :: st) := z_icmp_ne X hd ht (fun h => kt (fun q => h (by rw [q]))) (fun h => kf ((zb_inj a b).mp h))
theorem z_nif_eq (X : Cb g E own cc nL rm) {a : Nat} {off : Int} {tgt : Nat} (hd : decode cc pc = .ok (.ifCond .eq off, 3)) (ht : (pc : Int) + off = (tgt : Int)) (ha : a < 2 ^ 31) (kt : a = 0 → Z g E M lv tgt st) (kf : ¬ (a = 0) → Z g E M lv (pc + 3) st) : Z g E M lv pc (.int (nI a) :: st) := z_if_eq X hd ht (fun h => kt ((show nI a = 0 ↔ a = 0 from nI_eq ha (by decide)).mp h)) (fun h => kf (fun q => h ((show nI a = 0 ↔ a = 0 from nI_eq ha (by decide)).mpr q)))
theorem z_nif_ne (X : Cb g E own cc nL rm) {a : Nat} {off : Int} {tgt : Nat} (hd : decode cc pc = .ok (.ifCond .ne off, 3)) (ht : (pc : Int) + off = (tgt : Int)) (ha : a < 2 ^ 31) (kt : a ≠ 0 → Z g E M lv tgt st) (kf : a = 0 → Z g E M lv (pc + 3) st) : Z g E M lv pc (.int (nI a) :: st) := z_if_ne X hd ht (fun h => kt (fun q => h ((show nI a = 0 ↔ a = 0 from nI_eq ha (by decide)).mpr q))) (fun h => kf ((show nI a = 0 ↔ a = 0 from nI_eq ha (by decide)).mp h))
theorem z_nif_gt (X : Cb g E own cc nL rm) {a : Nat} {off : Int} {tgt : Nat} (hd : decode cc pc = .ok (.ifCond .gt off, 3)) (ht : (pc : Int) + off = (tgt : Int)) (ha : a < 2 ^ 31) (kt : 0 < a → Z g E M lv tgt st) (kf : ¬ (0 < a) → Z g E M lv (pc + 3) st) : Z g E M lv pc (.int (nI a) :: st) := z_if_gt X hd ht (fun h => kt ((show 0 < nI a ↔ 0 < a from nI_ltI (by decide) ha).mp h)) (fun h => kf (fun q => h ((show 0 < nI a ↔ 0 < a from nI_ltI (by decide) ha).mpr q)))
theorem z_nif_le (X : Cb g E own cc nL rm) {a : Nat} {off : Int} {tgt : Nat} (hd : decode cc pc = .ok (.ifCond .le off, 3)) (ht : (pc : Int) + off = (tgt : Int)) (ha : a < 2 ^ 31) (kt : a ≤ 0 → Z g E M lv tgt st) (kf : ¬ (a ≤ 0) → Z g E M lv (pc + 3) st) : Z g E M lv pc (.int (nI a) :: st) := z_if_le X hd ht (fun h => kt ((show nI a ≤ 0 ↔ a ≤ 0 from nI_leI ha (by decide)).mp h)) (fun h => kf (fun q => h ((show nI a ≤ 0 ↔ a ≤ 0 from nI_leI ha (by decide)).mpr q)))
theorem z_loop (N : Nat) (pc : Nat) {σ : Type} (J : Nat → σ → Prop) (F : Nat → σ → Mem × List (Nat × Value)) (hs : ∀ (i : Nat) (s : σ), i ≤ N → J i s → (∀ s' : σ, i < N → J (i + 1) s' → Z g E (F (i + 1) s').1 (F (i + 1) s').2 pc []) → Z g E (F i s).1 (F i s).2 pc []) : ∀ (i : Nat) (s : σ), i ≤ N → J i s → Z g E (F i s).1 (F i s).2 pc [] := by
  intro i s hi hJ
  obtain ⟨d, hd⟩ : ∃ d, d = N - i := ⟨_, rfl⟩
  induction d generalizing i s with
  | zero => exact hs i s hi hJ (fun s' h => absurd h (by omega))
  | succ d ih => exact hs i s hi hJ (fun s' h hJ' => ih (i + 1) s' (by omega) hJ' (by omega))
end ZN
