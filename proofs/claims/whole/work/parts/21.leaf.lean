/-! small methods of the class without loops -/
theorem sc_1 (a : PV) : (if isL a then 2 else 1) ≤ 2 := by cases isL a <;> decide
theorem sc0 : scat [] ≤ 8 := Nat.zero_le _
theorem sc1 {a : PV} : scat [a] ≤ 8 := by
  have h1 := sc_1 a
  simp only [scat]; omega
theorem sc2 {a b : PV} : scat [a, b] ≤ 8 := by
  have h1 := sc_1 a
  have h2 := sc_1 b
  simp only [scat]; omega
theorem sc3 {a b c : PV} : scat [a, b, c] ≤ 8 := by
  have h1 := sc_1 a
  have h2 := sc_1 b
  have h3 := sc_1 c
  simp only [scat]; omega
theorem sc4 {a b c d : PV} : scat [a, b, c, d] ≤ 8 := by
  have h1 := sc_1 a
  have h2 := sc_1 b
  have h3 := sc_1 c
  have h4 := sc_1 d
  simp only [scat]; omega
def Ct (k y : Nat) (as : List PV) (L : List (Nat × Nat)) (P : PM) (M : MM) (r : Option PV) (P' : PM) (M' : MM) : Prop := ∀ d, k ≤ d → Ev d y as (kz L) P M r (kz L) P' M'
theorem Ct_of {k y : Nat} {as : List PV} {L : List (Nat × Nat)} {P : PM} {M : MM} {r : Option PV} {P' : PM} {M' : MM} (ls : PL) (hn : (ent as).length ≤ mxl y) (hl : entL y as = ls) (h : ∀ d, k ≤ d → wpB (Ev d) y (fun r1 κ1 P1 M1 => r1 = r ∧ κ1 = kz L ∧ P1 = P' ∧ M1 = M') (fun _ _ _ => False) 0 ls [] (kz L) P M) : Ct (k + 1) y as L P M r P' M' := by
  intro d hd
  obtain ⟨d, rfl⟩ : ∃ e, d = e + 1 := ⟨d - 1, by omega⟩
  refine ⟨hn, ?_⟩
  rw [hl]
  exact h d (by omega)
theorem Ct_up {k k' y : Nat} {as : List PV} {L : List (Nat × Nat)} {P : PM} {M : MM} {r : Option PV} {P' : PM} {M' : MM} (h : Ct k y as L P M r P' M') (hk : k ≤ k') : Ct k' y as L P M r P' M' := fun d hd => h d (by omega)
section
variable {L : List (Nat × Nat)} {P : PM} {M : MM} {b : Bool}
theorem c_hasBit {w i : Int} : Ct 1 44 [pL w, pI i] L P M (some (pI (if lAnd (lUshr w i) 1 = 0 then 0 else 1))) P M := by
  refine Ct_of [some (pL w), none, some (pI i)] (Nat.le_of_ble_eq_true rfl) rfl (fun d hd => ?_)
  simp only [s_44_0, s_44_1, s_44_2, s_44_3, s_44_4, s_44_5, s_44_6, s_44_7, s_44_10, s_44_11, s_44_14, s_44_15, true_and, and_true, sc0, sc1, sc2, sc3, sc4, Option.toList, List.cons_append, List.nil_append, clr, ne_eq, not_false_eq_true, not_true_eq_false, false_and, and_false, true_or, or_true, or_false, false_or, forall_const, Nat.reduceEqDiff, List.length_nil, List.length_cons, Nat.zero_le, Nat.reduceAdd, Nat.reduceLeDiff, false_implies, true_implies, Int.reduceEq, Int.reduceNe, Int.reduceLT, Int.reduceLE, Int.reduceNeg, Int.reduceToNat, Int.toNat_natCast, Nat.reduceLT, and_self, Decidable.not_not]
  unfold lCmp
  grind
theorem c_Ghas {f : Int} : Ct 1 42 [pR 3, pI f] LC (PC b) M (some (pI (if 0 ≤ f ∧ f < M 3 2 then 1 else 0))) (PC b) M := by
  refine Ct_of [some (pR 3), some (pI f)] (Nat.le_of_ble_eq_true rfl) rfl (fun d hd => ?_)
  simp only [s_42_0, s_42_1, s_42_4, s_42_5, s_42_6, s_42_9, s_42_12, s_42_13, s_42_16, s_42_17, true_and, and_true, sc0, sc1, sc2, sc3, sc4, Option.toList, List.cons_append, List.nil_append, clr, ne_eq, not_false_eq_true, not_true_eq_false, false_and, and_false, true_or, or_true, or_false, false_or, forall_const, Nat.reduceEqDiff, List.length_nil, List.length_cons, Nat.zero_le, Nat.reduceAdd, Nat.reduceLeDiff, false_implies, true_implies, Int.reduceEq, Int.reduceNe, Int.reduceLT, Int.reduceLE, Int.reduceNeg, Int.reduceToNat, Int.toNat_natCast, Nat.reduceLT, and_self, Decidable.not_not, kC_3]
  grind
theorem c_Shas {o : Nat} {g : Int} (ho : stI o) : Ct 1 41 [pR o, pI g] LC (PC b) M (some (pI (if 0 ≤ g ∧ g < M o 5 then 1 else 0))) (PC b) M := by
  refine Ct_of [some (pR o), some (pI g)] (Nat.le_of_ble_eq_true rfl) rfl (fun d hd => ?_)
  simp only [s_41_0, s_41_1, s_41_4, s_41_5, s_41_6, s_41_9, s_41_12, s_41_13, s_41_16, s_41_17, true_and, and_true, sc0, sc1, sc2, sc3, sc4, Option.toList, List.cons_append, List.nil_append, clr, ne_eq, not_false_eq_true, not_true_eq_false, false_and, and_false, true_or, or_true, or_false, false_or, forall_const, Nat.reduceEqDiff, List.length_nil, List.length_cons, Nat.zero_le, Nat.reduceAdd, Nat.reduceLeDiff, false_implies, true_implies, Int.reduceEq, Int.reduceNe, Int.reduceLT, Int.reduceLE, Int.reduceNeg, Int.reduceToNat, Int.toNat_natCast, Nat.reduceLT, and_self, Decidable.not_not, st_k ho]
  grind
theorem c_isLocked {o : Nat} {f : Int} (ho : stI o) : Ct 2 43 [pR o, pI f] LC (PC b) M (some (pI (if lAnd (lUshr (M o 3) f) 1 = 0 then 0 else 1))) (PC b) M := by
  refine Ct_of [some (pR o), some (pI f)] (Nat.le_of_ble_eq_true rfl) rfl (fun d hd => ?_)
  simp only [s_43_0, s_43_1, s_43_4, s_43_8, true_and, and_true, sc0, sc1, sc2, sc3, sc4, Option.toList, List.cons_append, List.nil_append, clr, ne_eq, not_false_eq_true, not_true_eq_false, false_and, and_false, true_or, or_true, or_false, false_or, forall_const, Nat.reduceEqDiff, List.length_nil, List.length_cons, Nat.zero_le, Nat.reduceAdd, Nat.reduceLeDiff, false_implies, true_implies, Int.reduceEq, Int.reduceNe, Int.reduceLT, Int.reduceLE, Int.reduceNeg, Int.reduceToNat, Int.toNat_natCast, Nat.reduceLT, and_self, Decidable.not_not, st_k ho]
  refine s_43_5 (Nat.le_of_ble_eq_true rfl) (c_hasBit d hd) ?_
  simp only [s_43_0, s_43_1, s_43_4, s_43_8, true_and, and_true, sc0, sc1, sc2, sc3, sc4, Option.toList, List.cons_append, List.nil_append, clr, ne_eq, not_false_eq_true, not_true_eq_false, false_and, and_false, true_or, or_true, or_false, false_or, forall_const, Nat.reduceEqDiff, List.length_nil, List.length_cons, Nat.zero_le, Nat.reduceAdd, Nat.reduceLeDiff, false_implies, true_implies, Int.reduceEq, Int.reduceNe, Int.reduceLT, Int.reduceLE, Int.reduceNeg, Int.reduceToNat, Int.toNat_natCast, Nat.reduceLT, and_self, Decidable.not_not]
  grind
theorem c_end {n : Int} : Ct 1 24 [pR 1, pI n] LC (PC b) M (some (pI (if n < 0 ∨ M 1 1 < n then 0 else 1))) (PC b) (if n < 0 ∨ M 1 1 < n then M else uM M 1 1 n) := by
  refine Ct_of [some (pR 1), some (pI n)] (Nat.le_of_ble_eq_true rfl) rfl (fun d hd => ?_)
  simp only [s_24_0, s_24_1, s_24_4, s_24_5, s_24_6, s_24_9, s_24_12, s_24_13, s_24_14, s_24_15, s_24_16, s_24_19, s_24_20, true_and, and_true, sc0, sc1, sc2, sc3, sc4, Option.toList, List.cons_append, List.nil_append, clr, ne_eq, not_false_eq_true, not_true_eq_false, false_and, and_false, true_or, or_true, or_false, false_or, forall_const, Nat.reduceEqDiff, List.length_nil, List.length_cons, Nat.zero_le, Nat.reduceAdd, Nat.reduceLeDiff, false_implies, true_implies, Int.reduceEq, Int.reduceNe, Int.reduceLT, Int.reduceLE, Int.reduceNeg, Int.reduceToNat, Int.toNat_natCast, Nat.reduceLT, and_self, Decidable.not_not, kC_1]
  grind
theorem c_emptyText : Ct 1 26 [pR 1] LC (PC b) M (some (pI (M 1 1))) (PC b) (uM M 1 1 0) := by
  refine Ct_of [some (pR 1), none] (Nat.le_of_ble_eq_true rfl) rfl (fun d hd => ?_)
  simp only [s_26_0, s_26_1, s_26_4, s_26_5, s_26_6, s_26_7, s_26_10, s_26_11, true_and, and_true, sc0, sc1, sc2, sc3, sc4, Option.toList, List.cons_append, List.nil_append, clr, ne_eq, not_false_eq_true, not_true_eq_false, false_and, and_false, true_or, or_true, or_false, false_or, forall_const, Nat.reduceEqDiff, List.length_nil, List.length_cons, Nat.zero_le, Nat.reduceAdd, Nat.reduceLeDiff, false_implies, true_implies, Int.reduceEq, Int.reduceNe, Int.reduceLT, Int.reduceLE, Int.reduceNeg, Int.reduceToNat, Int.toNat_natCast, Nat.reduceLT, and_self, Decidable.not_not, kC_1]
theorem c_wipe : Ct 1 31 [pR 1] LC (PC b) M none (PC b) (uM (uM (uM M 1 15 0) 1 16 0) 1 17 0) := by
  refine Ct_of [some (pR 1)] (Nat.le_of_ble_eq_true rfl) rfl (fun d hd => ?_)
  simp only [s_31_0, s_31_1, s_31_2, s_31_5, s_31_6, s_31_7, s_31_10, s_31_11, s_31_12, s_31_15, true_and, and_true, sc0, sc1, sc2, sc3, sc4, Option.toList, List.cons_append, List.nil_append, clr, ne_eq, not_false_eq_true, not_true_eq_false, false_and, and_false, true_or, or_true, or_false, false_or, forall_const, Nat.reduceEqDiff, List.length_nil, List.length_cons, Nat.zero_le, Nat.reduceAdd, Nat.reduceLeDiff, false_implies, true_implies, Int.reduceEq, Int.reduceNe, Int.reduceLT, Int.reduceLE, Int.reduceNeg, Int.reduceToNat, Int.toNat_natCast, Nat.reduceLT, and_self, Decidable.not_not, kC_1]
theorem c_use {v : Int} : Ct 1 48 [pR 1, pI v] LC (PC b) M (some (pI (if v < 1 ∨ 99 < v then -1 else M 1 14))) (PC b) (if v < 1 ∨ 99 < v then M else uM M 1 14 v) := by
  refine Ct_of [some (pR 1), some (pI v), none] (Nat.le_of_ble_eq_true rfl) rfl (fun d hd => ?_)
  simp only [s_48_0, s_48_1, s_48_2, s_48_5, s_48_6, s_48_8, s_48_11, s_48_12, s_48_13, s_48_14, s_48_17, s_48_18, s_48_19, s_48_20, s_48_23, s_48_24, true_and, and_true, sc0, sc1, sc2, sc3, sc4, Option.toList, List.cons_append, List.nil_append, clr, ne_eq, not_false_eq_true, not_true_eq_false, false_and, and_false, true_or, or_true, or_false, false_or, forall_const, Nat.reduceEqDiff, List.length_nil, List.length_cons, Nat.zero_le, Nat.reduceAdd, Nat.reduceLeDiff, false_implies, true_implies, Int.reduceEq, Int.reduceNe, Int.reduceLT, Int.reduceLE, Int.reduceNeg, Int.reduceToNat, Int.toNat_natCast, Nat.reduceLT, and_self, Decidable.not_not, kC_1]
  grind
theorem c_isDigit {c : Int} : Ct 1 16 [pI c] L P M (some (pI (if 48 ≤ c ∧ c ≤ 57 then 1 else 0))) P M := by
  refine Ct_of [some (pI c)] (Nat.le_of_ble_eq_true rfl) rfl (fun d hd => ?_)
  simp only [s_16_0, s_16_1, s_16_3, s_16_6, s_16_7, s_16_9, s_16_12, s_16_13, s_16_16, s_16_17, true_and, and_true, sc0, sc1, sc2, sc3, sc4, Option.toList, List.cons_append, List.nil_append, clr, ne_eq, not_false_eq_true, not_true_eq_false, false_and, and_false, true_or, or_true, or_false, false_or, forall_const, Nat.reduceEqDiff, List.length_nil, List.length_cons, Nat.zero_le, Nat.reduceAdd, Nat.reduceLeDiff, false_implies, true_implies, Int.reduceEq, Int.reduceNe, Int.reduceLT, Int.reduceLE, Int.reduceNeg, Int.reduceToNat, Int.toNat_natCast, Nat.reduceLT, and_self, Decidable.not_not]
  grind
theorem c_isLetter {c : Int} : Ct 1 18 [pI c] L P M (some (pI (if c = 107 ∨ c = 114 ∨ c = 111 ∨ c = 119 ∨ c = 110 ∨ c = 105 then 1 else 0))) P M := by
  refine Ct_of [some (pI c)] (Nat.le_of_ble_eq_true rfl) rfl (fun d hd => ?_)
  simp only [s_18_0, s_18_1, s_18_3, s_18_6, s_18_7, s_18_9, s_18_12, s_18_13, s_18_15, s_18_18, s_18_19, s_18_21, s_18_24, s_18_25, s_18_27, s_18_30, s_18_31, s_18_33, s_18_36, s_18_37, s_18_40, s_18_41, true_and, and_true, sc0, sc1, sc2, sc3, sc4, Option.toList, List.cons_append, List.nil_append, clr, ne_eq, not_false_eq_true, not_true_eq_false, false_and, and_false, true_or, or_true, or_false, false_or, forall_const, Nat.reduceEqDiff, List.length_nil, List.length_cons, Nat.zero_le, Nat.reduceAdd, Nat.reduceLeDiff, false_implies, true_implies, Int.reduceEq, Int.reduceNe, Int.reduceLT, Int.reduceLE, Int.reduceNeg, Int.reduceToNat, Int.toNat_natCast, Nat.reduceLT, and_self, Decidable.not_not]
  grind
theorem c_restart : Ct 1 55 [pR 145] LC (PC b) M none (PC b) (uM (uM (uM M 145 5 0) 145 6 0) 145 7 0) := by
  refine Ct_of [some (pR 145)] (Nat.le_of_ble_eq_true rfl) rfl (fun d hd => ?_)
  simp only [s_55_0, s_55_1, s_55_2, s_55_5, s_55_6, s_55_7, s_55_10, s_55_11, s_55_12, s_55_15, true_and, and_true, sc0, sc1, sc2, sc3, sc4, Option.toList, List.cons_append, List.nil_append, clr, ne_eq, not_false_eq_true, not_true_eq_false, false_and, and_false, true_or, or_true, or_false, false_or, forall_const, Nat.reduceEqDiff, List.length_nil, List.length_cons, Nat.zero_le, Nat.reduceAdd, Nat.reduceLeDiff, false_implies, true_implies, Int.reduceEq, Int.reduceNe, Int.reduceLT, Int.reduceLE, Int.reduceNeg, Int.reduceToNat, Int.toNat_natCast, Nat.reduceLT, and_self, Decidable.not_not, kC_145]
theorem c_begin : Ct 1 70 [pR 172] LC (PC b) M none (PC b) (uM M 172 1 0) := by
  refine Ct_of [some (pR 172)] (Nat.le_of_ble_eq_true rfl) rfl (fun d hd => ?_)
  simp only [s_70_0, s_70_1, s_70_2, s_70_5, true_and, and_true, sc0, sc1, sc2, sc3, sc4, Option.toList, List.cons_append, List.nil_append, clr, ne_eq, not_false_eq_true, not_true_eq_false, false_and, and_false, true_or, or_true, or_false, false_or, forall_const, Nat.reduceEqDiff, List.length_nil, List.length_cons, Nat.zero_le, Nat.reduceAdd, Nat.reduceLeDiff, false_implies, true_implies, Int.reduceEq, Int.reduceNe, Int.reduceLT, Int.reduceLE, Int.reduceNeg, Int.reduceToNat, Int.toNat_natCast, Nat.reduceLT, and_self, Decidable.not_not, kC_172]
theorem c_fieldOf {r c : Int} : Ct 1 35 [pR 3, pI r, pI c] LC (PC b) M (some (pI (if 0 ≤ r ∧ r < M 3 0 ∧ 0 ≤ c ∧ c < M 3 1 then w32 (w32 (r * M 3 1) + c) else -1))) (PC b) M := by
  refine Ct_of [some (pR 3), some (pI r), some (pI c)] (Nat.le_of_ble_eq_true rfl) rfl (fun d hd => ?_)
  simp only [s_35_0, s_35_1, s_35_4, s_35_5, s_35_6, s_35_9, s_35_12, s_35_13, s_35_16, s_35_17, s_35_18, s_35_21, s_35_24, s_35_25, s_35_26, s_35_27, s_35_28, s_35_31, s_35_32, s_35_33, s_35_34, true_and, and_true, sc0, sc1, sc2, sc3, sc4, Option.toList, List.cons_append, List.nil_append, clr, ne_eq, not_false_eq_true, not_true_eq_false, false_and, and_false, true_or, or_true, or_false, false_or, forall_const, Nat.reduceEqDiff, List.length_nil, List.length_cons, Nat.zero_le, Nat.reduceAdd, Nat.reduceLeDiff, false_implies, true_implies, Int.reduceEq, Int.reduceNe, Int.reduceLT, Int.reduceLE, Int.reduceNeg, Int.reduceToNat, Int.toNat_natCast, Nat.reduceLT, and_self, Decidable.not_not, kC_3]
  grind
end
