/-! again, print, forget, the four acts, sign -/
section
variable {M : MM} {b : Bool}
theorem c_again {i : Int} : Cw 3 150 [pR 1, pI i] LC (PC b) M (fun r' P' M' => P' = PC b ∧ if i < 0 ∨ 2 ≤ i ∨ M 32 i.toNat = 0 then r' = some (pI 0) ∧ M' = M else r' = some (pI 1) ∧ eqS M' 5 M (129 + 8 * i.toNat) ∧ M' 29 4 = 0 ∧ (∀ j, j ≠ 4 → M' 29 j = M 29 j) ∧ ∀ p, p ≠ 29 → (p < 5 ∨ 13 ≤ p) → M' p = M p) := by
  refine Cw_r [some (pR 1), some (pI i)] (Nat.le_of_ble_eq_true rfl) rfl (fun d hd => ?_)
  have key : Cw 2 151 [pR 29, pI i, pR 5] LC (PC b) M (fun r' P' M' => P' = PC b ∧ if i < 0 ∨ 2 ≤ i ∨ M 32 i.toNat = 0 then r' = some (pI 0) ∧ M' = M else r' = some (pI 1) ∧ eqS M' 5 M (129 + 8 * i.toNat) ∧ M' 29 4 = 0 ∧ (∀ j, j ≠ 4 → M' 29 j = M 29 j) ∧ ∀ p, p ≠ 29 → (p < 5 ∨ 13 ≤ p) → M' p = M p) := by
    refine Cw_r [some (pR 29), some (pI i), some (pR 5)] (Nat.le_of_ble_eq_true rfl) rfl (fun d hd => ?_)
    by_cases h : i < 0 ∨ 2 ≤ i ∨ M 32 i.toNat = 0
    · refine ⟨some (pI 0), PC b, M, fun Q X hq => ?_, rfl, by rw [if_pos h]; exact ⟨rfl, rfl⟩⟩
      by_cases h0 : i < 0
      · simp only [s_151_0, s_151_1, s_151_4, s_151_5, s_151_6, s_151_9, s_151_10, s_151_13, s_151_14, s_151_15, s_151_18, s_151_19, s_151_20, s_151_21, s_151_22, s_151_25, s_151_26, s_151_30, s_151_31, s_151_32, s_151_35, s_151_36, true_and, and_true, sc0, sc1, sc2, sc3, sc4, Option.toList, List.cons_append, List.nil_append, clr, ne_eq, not_false_eq_true, not_true_eq_false, false_and, and_false, true_or, or_true, or_false, false_or, forall_const, Nat.reduceEqDiff, List.length_nil, List.length_cons, Nat.zero_le, Nat.reduceAdd, Nat.reduceLeDiff, false_implies, true_implies, Int.reduceEq, Int.reduceNe, Int.reduceLT, Int.reduceLE, Int.reduceNeg, Int.reduceToNat, Int.toNat_natCast, Nat.reduceLT, and_self, Decidable.not_not, h0]
        exact hq
      · by_cases h2 : 2 ≤ i
        · simp only [s_151_0, s_151_1, s_151_4, s_151_5, s_151_6, s_151_9, s_151_10, s_151_13, s_151_14, s_151_15, s_151_18, s_151_19, s_151_20, s_151_21, s_151_22, s_151_25, s_151_26, s_151_30, s_151_31, s_151_32, s_151_35, s_151_36, true_and, and_true, sc0, sc1, sc2, sc3, sc4, Option.toList, List.cons_append, List.nil_append, clr, ne_eq, not_false_eq_true, not_true_eq_false, false_and, and_false, true_or, or_true, or_false, false_or, forall_const, Nat.reduceEqDiff, List.length_nil, List.length_cons, Nat.zero_le, Nat.reduceAdd, Nat.reduceLeDiff, false_implies, true_implies, Int.reduceEq, Int.reduceNe, Int.reduceLT, Int.reduceLE, Int.reduceNeg, Int.reduceToNat, Int.toNat_natCast, Nat.reduceLT, and_self, Decidable.not_not, h0, h2]
          exact hq
        · have h3 : M 32 i.toNat = 0 := by omega
          simp only [s_151_0, s_151_1, s_151_4, s_151_5, s_151_6, s_151_9, s_151_10, s_151_13, s_151_14, s_151_15, s_151_18, s_151_19, s_151_20, s_151_21, s_151_22, s_151_25, s_151_26, s_151_30, s_151_31, s_151_32, s_151_35, s_151_36, true_and, and_true, sc0, sc1, sc2, sc3, sc4, Option.toList, List.cons_append, List.nil_append, clr, ne_eq, not_false_eq_true, not_true_eq_false, false_and, and_false, true_or, or_true, or_false, false_or, forall_const, Nat.reduceEqDiff, List.length_nil, List.length_cons, Nat.zero_le, Nat.reduceAdd, Nat.reduceLeDiff, false_implies, true_implies, Int.reduceEq, Int.reduceNe, Int.reduceLT, Int.reduceLE, Int.reduceNeg, Int.reduceToNat, Int.toNat_natCast, Nat.reduceLT, and_self, Decidable.not_not, h0, h2, kC_29, pC_29_2, kC_32, show 0 ≤ i by omega, show i < ((2 : Nat) : Int) by omega, h3]
          exact hq
    · have h3 : ¬ M 32 i.toNat = 0 := by omega
      obtain ⟨r', P', M', hE, rfl, rfl, e1, e2⟩ := c_take (b := b) (M := M) (o := 5) (q := 129 + 8 * i.toNat) now_st (ke_st (by omega)) (by omega) d (by omega)
      refine ⟨some (pI 1), PC b, uM M' 29 4 0, fun Q X hq => ?_, rfl, ?_⟩
      · simp only [s_151_0, s_151_1, s_151_4, s_151_5, s_151_6, s_151_9, s_151_10, s_151_13, s_151_14, s_151_15, s_151_18, s_151_19, s_151_20, s_151_21, s_151_22, s_151_25, s_151_26, s_151_30, s_151_31, s_151_32, s_151_35, s_151_36, true_and, and_true, sc0, sc1, sc2, sc3, sc4, Option.toList, List.cons_append, List.nil_append, clr, ne_eq, not_false_eq_true, not_true_eq_false, false_and, and_false, true_or, or_true, or_false, false_or, forall_const, Nat.reduceEqDiff, List.length_nil, List.length_cons, Nat.zero_le, Nat.reduceAdd, Nat.reduceLeDiff, false_implies, true_implies, Int.reduceEq, Int.reduceNe, Int.reduceLT, Int.reduceLE, Int.reduceNeg, Int.reduceToNat, Int.toNat_natCast, Nat.reduceLT, and_self, Decidable.not_not, show ¬ i < 0 by omega, show ¬ 2 ≤ i by omega, kC_29, kC_31, kC_32, pC_29_1, pC_29_2, ke_at (show i.toNat < 2 by omega), show 0 ≤ i by omega, show i < ((2 : Nat) : Int) by omega, show ¬ 129 + 8 * i.toNat = 0 by omega, h3]
        refine s_151_27 (Nat.le_of_ble_eq_true rfl) kC_5 hE ?_
        simp only [s_151_0, s_151_1, s_151_4, s_151_5, s_151_6, s_151_9, s_151_10, s_151_13, s_151_14, s_151_15, s_151_18, s_151_19, s_151_20, s_151_21, s_151_22, s_151_25, s_151_26, s_151_30, s_151_31, s_151_32, s_151_35, s_151_36, true_and, and_true, sc0, sc1, sc2, sc3, sc4, Option.toList, List.cons_append, List.nil_append, clr, ne_eq, not_false_eq_true, not_true_eq_false, false_and, and_false, true_or, or_true, or_false, false_or, forall_const, Nat.reduceEqDiff, List.length_nil, List.length_cons, Nat.zero_le, Nat.reduceAdd, Nat.reduceLeDiff, false_implies, true_implies, Int.reduceEq, Int.reduceNe, Int.reduceLT, Int.reduceLE, Int.reduceNeg, Int.reduceToNat, Int.toNat_natCast, Nat.reduceLT, and_self, Decidable.not_not, kC_29]
        simpa using hq
      · rw [if_neg h]
        obtain ⟨a1, a2, a3, a4, a5⟩ := e1
        have e29 : M' 29 = M 29 := e2 29 (by omega)
        refine ⟨rfl, ⟨fun k hk => ?_, fun k hk => ?_, ?_, ?_, ?_⟩, by simp [uM_at], fun j hj => by simp [uM_at, hj, e29], fun p hp hp2 => ?_⟩
        · rw [uM_ne (by omega), uM_ne (by omega)]; exact a1 k hk
        · rw [uM_ne (by omega), uM_ne (by omega), uM_ne (by omega), uM_ne (by omega), uM_ne (by omega)]; exact a2 k hk
        · rw [uM_ne (by omega)]; exact a3
        · rw [uM_ne (by omega)]; exact a4
        · rw [uM_ne (by omega)]; exact a5
        · rw [uM_ne hp]; exact e2 p (by omega)
  obtain ⟨r', P', M', hE, rfl, e⟩ := key d (by omega)
  obtain ⟨x, rfl, hx⟩ : ∃ x, r' = some (pI x) ∧ (x = 0 ∨ x = 1) := by
    by_cases hs : i < 0 ∨ 2 ≤ i ∨ M 32 i.toNat = 0
    · rw [if_pos hs] at e; exact ⟨_, e.1, Or.inl rfl⟩
    · rw [if_neg hs] at e; exact ⟨_, e.1, Or.inr rfl⟩
  refine ⟨some (pI x), PC b, M', fun Q X hq => ?_, rfl, e⟩
  simp only [s_150_0, s_150_1, s_150_4, s_150_5, s_150_6, s_150_12, true_and, and_true, sc0, sc1, sc2, sc3, sc4, Option.toList, List.cons_append, List.nil_append, clr, ne_eq, not_false_eq_true, not_true_eq_false, false_and, and_false, true_or, or_true, or_false, false_or, forall_const, Nat.reduceEqDiff, List.length_nil, List.length_cons, Nat.zero_le, Nat.reduceAdd, Nat.reduceLeDiff, false_implies, true_implies, Int.reduceEq, Int.reduceNe, Int.reduceLT, Int.reduceLE, Int.reduceNeg, Int.reduceToNat, Int.toNat_natCast, Nat.reduceLT, and_self, Decidable.not_not, kC_1, pC_1_6, pC_1_3]
  refine s_150_9 (Nat.le_of_ble_eq_true rfl) kC_29 hE ?_
  simp only [s_150_0, s_150_1, s_150_4, s_150_5, s_150_6, s_150_12, true_and, and_true, sc0, sc1, sc2, sc3, sc4, Option.toList, List.cons_append, List.nil_append, clr, ne_eq, not_false_eq_true, not_true_eq_false, false_and, and_false, true_or, or_true, or_false, false_or, forall_const, Nat.reduceEqDiff, List.length_nil, List.length_cons, Nat.zero_le, Nat.reduceAdd, Nat.reduceLeDiff, false_implies, true_implies, Int.reduceEq, Int.reduceNe, Int.reduceLT, Int.reduceLE, Int.reduceNeg, Int.reduceToNat, Int.toNat_natCast, Nat.reduceLT, and_self, Decidable.not_not]
  exact ⟨hx, hq⟩
theorem c_forget : Ct 2 129 [pR 1] LC (PC b) M (some (pI (M 1 17))) (PC b) (uM (uM (uM M 1 15 0) 1 16 0) 1 17 0) := by
  refine Ct_r [some (pR 1), none] (Nat.le_of_ble_eq_true rfl) rfl (fun d hd Q X hq => ?_)
  simp only [s_129_0, s_129_1, s_129_4, s_129_5, s_129_9, s_129_10, true_and, and_true, sc0, sc1, sc2, sc3, sc4, Option.toList, List.cons_append, List.nil_append, clr, ne_eq, not_false_eq_true, not_true_eq_false, false_and, and_false, true_or, or_true, or_false, false_or, forall_const, Nat.reduceEqDiff, List.length_nil, List.length_cons, Nat.zero_le, Nat.reduceAdd, Nat.reduceLeDiff, false_implies, true_implies, Int.reduceEq, Int.reduceNe, Int.reduceLT, Int.reduceLE, Int.reduceNeg, Int.reduceToNat, Int.toNat_natCast, Nat.reduceLT, and_self, Decidable.not_not, kC_1]
  refine s_129_6 (Nat.le_of_ble_eq_true rfl) kC_1 (c_wipe d (by omega)) ?_
  simp only [s_129_0, s_129_1, s_129_4, s_129_5, s_129_9, s_129_10, true_and, and_true, sc0, sc1, sc2, sc3, sc4, Option.toList, List.cons_append, List.nil_append, clr, ne_eq, not_false_eq_true, not_true_eq_false, false_and, and_false, true_or, or_true, or_false, false_or, forall_const, Nat.reduceEqDiff, List.length_nil, List.length_cons, Nat.zero_le, Nat.reduceAdd, Nat.reduceLeDiff, false_implies, true_implies, Int.reduceEq, Int.reduceNe, Int.reduceLT, Int.reduceLE, Int.reduceNeg, Int.reduceToNat, Int.toNat_natCast, Nat.reduceLT, and_self, Decidable.not_not]
  exact hq
def printOk (M : MM) (f i : Int) : Prop := (0 ≤ f ∧ f < M 3 2) ∧ (i = 0 ∨ i = 1) ∧ M 1 17 < 12
theorem c_print_no {f i : Int} (h : ¬ printOk M f i) : Ct 2 128 [pR 1, pI f, pI i] LC (PC b) M (some (pI (-1))) (PC b) M := by
  refine Ct_r [some (pR 1), some (pI f), some (pI i)] (Nat.le_of_ble_eq_true rfl) rfl (fun d hd Q X hq => ?_)
  simp only [s_128_0, s_128_1, s_128_4, s_128_8, s_128_11, s_128_12, s_128_15, s_128_16, s_128_17, s_128_20, s_128_21, s_128_24, s_128_26, s_128_29, s_128_30, s_128_31, s_128_32, s_128_33, s_128_36, s_128_37I, s_128_37, s_128_38, s_128_41, s_128_42, s_128_43, s_128_44, s_128_45, s_128_48, s_128_51, s_128_52I, s_128_52, s_128_53, s_128_56, s_128_57, s_128_58, s_128_59, s_128_60, s_128_63, s_128_64I, s_128_64, s_128_65, s_128_68, s_128_69, s_128_70, s_128_73, s_128_74, s_128_77, true_and, and_true, sc0, sc1, sc2, sc3, sc4, Option.toList, List.cons_append, List.nil_append, clr, ne_eq, not_false_eq_true, not_true_eq_false, false_and, and_false, true_or, or_true, or_false, false_or, forall_const, Nat.reduceEqDiff, List.length_nil, List.length_cons, Nat.zero_le, Nat.reduceAdd, Nat.reduceLeDiff, false_implies, true_implies, Int.reduceEq, Int.reduceNe, Int.reduceLT, Int.reduceLE, Int.reduceNeg, Int.reduceToNat, Int.toNat_natCast, Nat.reduceLT, and_self, Decidable.not_not, kC_1, pC_1_2]
  refine s_128_5 (Nat.le_of_ble_eq_true rfl) kC_3 (c_Ghas d (by omega)) ?_
  unfold printOk at h
  by_cases h1 : 0 ≤ f ∧ f < M 3 2
  · by_cases h2 : i < 0
    · simp only [s_128_0, s_128_1, s_128_4, s_128_8, s_128_11, s_128_12, s_128_15, s_128_16, s_128_17, s_128_20, s_128_21, s_128_24, s_128_26, s_128_29, s_128_30, s_128_31, s_128_32, s_128_33, s_128_36, s_128_37I, s_128_37, s_128_38, s_128_41, s_128_42, s_128_43, s_128_44, s_128_45, s_128_48, s_128_51, s_128_52I, s_128_52, s_128_53, s_128_56, s_128_57, s_128_58, s_128_59, s_128_60, s_128_63, s_128_64I, s_128_64, s_128_65, s_128_68, s_128_69, s_128_70, s_128_73, s_128_74, s_128_77, true_and, and_true, sc0, sc1, sc2, sc3, sc4, Option.toList, List.cons_append, List.nil_append, clr, ne_eq, not_false_eq_true, not_true_eq_false, false_and, and_false, true_or, or_true, or_false, false_or, forall_const, Nat.reduceEqDiff, List.length_nil, List.length_cons, Nat.zero_le, Nat.reduceAdd, Nat.reduceLeDiff, false_implies, true_implies, Int.reduceEq, Int.reduceNe, Int.reduceLT, Int.reduceLE, Int.reduceNeg, Int.reduceToNat, Int.toNat_natCast, Nat.reduceLT, and_self, Decidable.not_not, if_pos h1, h2]
      exact hq
    · by_cases h3 : 1 < i
      · simp only [s_128_0, s_128_1, s_128_4, s_128_8, s_128_11, s_128_12, s_128_15, s_128_16, s_128_17, s_128_20, s_128_21, s_128_24, s_128_26, s_128_29, s_128_30, s_128_31, s_128_32, s_128_33, s_128_36, s_128_37I, s_128_37, s_128_38, s_128_41, s_128_42, s_128_43, s_128_44, s_128_45, s_128_48, s_128_51, s_128_52I, s_128_52, s_128_53, s_128_56, s_128_57, s_128_58, s_128_59, s_128_60, s_128_63, s_128_64I, s_128_64, s_128_65, s_128_68, s_128_69, s_128_70, s_128_73, s_128_74, s_128_77, true_and, and_true, sc0, sc1, sc2, sc3, sc4, Option.toList, List.cons_append, List.nil_append, clr, ne_eq, not_false_eq_true, not_true_eq_false, false_and, and_false, true_or, or_true, or_false, false_or, forall_const, Nat.reduceEqDiff, List.length_nil, List.length_cons, Nat.zero_le, Nat.reduceAdd, Nat.reduceLeDiff, false_implies, true_implies, Int.reduceEq, Int.reduceNe, Int.reduceLT, Int.reduceLE, Int.reduceNeg, Int.reduceToNat, Int.toNat_natCast, Nat.reduceLT, and_self, Decidable.not_not, if_pos h1, h2, h3]
        exact hq
      · have h4 : ¬ M 1 17 < 12 := fun z => h ⟨h1, by omega, z⟩
        simp only [s_128_0, s_128_1, s_128_4, s_128_8, s_128_11, s_128_12, s_128_15, s_128_16, s_128_17, s_128_20, s_128_21, s_128_24, s_128_26, s_128_29, s_128_30, s_128_31, s_128_32, s_128_33, s_128_36, s_128_37I, s_128_37, s_128_38, s_128_41, s_128_42, s_128_43, s_128_44, s_128_45, s_128_48, s_128_51, s_128_52I, s_128_52, s_128_53, s_128_56, s_128_57, s_128_58, s_128_59, s_128_60, s_128_63, s_128_64I, s_128_64, s_128_65, s_128_68, s_128_69, s_128_70, s_128_73, s_128_74, s_128_77, true_and, and_true, sc0, sc1, sc2, sc3, sc4, Option.toList, List.cons_append, List.nil_append, clr, ne_eq, not_false_eq_true, not_true_eq_false, false_and, and_false, true_or, or_true, or_false, false_or, forall_const, Nat.reduceEqDiff, List.length_nil, List.length_cons, Nat.zero_le, Nat.reduceAdd, Nat.reduceLeDiff, false_implies, true_implies, Int.reduceEq, Int.reduceNe, Int.reduceLT, Int.reduceLE, Int.reduceNeg, Int.reduceToNat, Int.toNat_natCast, Nat.reduceLT, and_self, Decidable.not_not, if_pos h1, h2, h3, kC_1, h4]
        exact hq
  · simp only [s_128_0, s_128_1, s_128_4, s_128_8, s_128_11, s_128_12, s_128_15, s_128_16, s_128_17, s_128_20, s_128_21, s_128_24, s_128_26, s_128_29, s_128_30, s_128_31, s_128_32, s_128_33, s_128_36, s_128_37I, s_128_37, s_128_38, s_128_41, s_128_42, s_128_43, s_128_44, s_128_45, s_128_48, s_128_51, s_128_52I, s_128_52, s_128_53, s_128_56, s_128_57, s_128_58, s_128_59, s_128_60, s_128_63, s_128_64I, s_128_64, s_128_65, s_128_68, s_128_69, s_128_70, s_128_73, s_128_74, s_128_77, true_and, and_true, sc0, sc1, sc2, sc3, sc4, Option.toList, List.cons_append, List.nil_append, clr, ne_eq, not_false_eq_true, not_true_eq_false, false_and, and_false, true_or, or_true, or_false, false_or, forall_const, Nat.reduceEqDiff, List.length_nil, List.length_cons, Nat.zero_le, Nat.reduceAdd, Nat.reduceLeDiff, false_implies, true_implies, Int.reduceEq, Int.reduceNe, Int.reduceLT, Int.reduceLE, Int.reduceNeg, Int.reduceToNat, Int.toNat_natCast, Nat.reduceLT, and_self, Decidable.not_not, if_neg h1]
    exact hq
theorem c_print {f i : Int} (h : printOk M f i) : Ct 2 128 [pR 1, pI f, pI i] LC (PC b) M (some (pI (w32 (M 1 17 + 1)))) (PC b) (uM (if i = 1 then uM M 1 15 (lOr (M 1 15) (lShl 1 f)) else uM M 1 16 (lOr (M 1 16) (lShl 1 f))) 1 17 (w32 (M 1 17 + 1))) := by
  refine Ct_r [some (pR 1), some (pI f), some (pI i)] (Nat.le_of_ble_eq_true rfl) rfl (fun d hd Q X hq => ?_)
  obtain ⟨h1, h2, h3⟩ := h
  simp only [s_128_0, s_128_1, s_128_4, s_128_8, s_128_11, s_128_12, s_128_15, s_128_16, s_128_17, s_128_20, s_128_21, s_128_24, s_128_26, s_128_29, s_128_30, s_128_31, s_128_32, s_128_33, s_128_36, s_128_37I, s_128_37, s_128_38, s_128_41, s_128_42, s_128_43, s_128_44, s_128_45, s_128_48, s_128_51, s_128_52I, s_128_52, s_128_53, s_128_56, s_128_57, s_128_58, s_128_59, s_128_60, s_128_63, s_128_64I, s_128_64, s_128_65, s_128_68, s_128_69, s_128_70, s_128_73, s_128_74, s_128_77, true_and, and_true, sc0, sc1, sc2, sc3, sc4, Option.toList, List.cons_append, List.nil_append, clr, ne_eq, not_false_eq_true, not_true_eq_false, false_and, and_false, true_or, or_true, or_false, false_or, forall_const, Nat.reduceEqDiff, List.length_nil, List.length_cons, Nat.zero_le, Nat.reduceAdd, Nat.reduceLeDiff, false_implies, true_implies, Int.reduceEq, Int.reduceNe, Int.reduceLT, Int.reduceLE, Int.reduceNeg, Int.reduceToNat, Int.toNat_natCast, Nat.reduceLT, and_self, Decidable.not_not, kC_1, pC_1_2]
  refine s_128_5 (Nat.le_of_ble_eq_true rfl) kC_3 (c_Ghas d (by omega)) ?_
  rcases h2 with rfl | rfl
  · simp only [s_128_0, s_128_1, s_128_4, s_128_8, s_128_11, s_128_12, s_128_15, s_128_16, s_128_17, s_128_20, s_128_21, s_128_24, s_128_26, s_128_29, s_128_30, s_128_31, s_128_32, s_128_33, s_128_36, s_128_37I, s_128_37, s_128_38, s_128_41, s_128_42, s_128_43, s_128_44, s_128_45, s_128_48, s_128_51, s_128_52I, s_128_52, s_128_53, s_128_56, s_128_57, s_128_58, s_128_59, s_128_60, s_128_63, s_128_64I, s_128_64, s_128_65, s_128_68, s_128_69, s_128_70, s_128_73, s_128_74, s_128_77, true_and, and_true, sc0, sc1, sc2, sc3, sc4, Option.toList, List.cons_append, List.nil_append, clr, ne_eq, not_false_eq_true, not_true_eq_false, false_and, and_false, true_or, or_true, or_false, false_or, forall_const, Nat.reduceEqDiff, List.length_nil, List.length_cons, Nat.zero_le, Nat.reduceAdd, Nat.reduceLeDiff, false_implies, true_implies, Int.reduceEq, Int.reduceNe, Int.reduceLT, Int.reduceLE, Int.reduceNeg, Int.reduceToNat, Int.toNat_natCast, Nat.reduceLT, and_self, Decidable.not_not, if_pos h1, kC_1, h3, uM_at]
    simpa using hq
  · simp only [s_128_0, s_128_1, s_128_4, s_128_8, s_128_11, s_128_12, s_128_15, s_128_16, s_128_17, s_128_20, s_128_21, s_128_24, s_128_26, s_128_29, s_128_30, s_128_31, s_128_32, s_128_33, s_128_36, s_128_37I, s_128_37, s_128_38, s_128_41, s_128_42, s_128_43, s_128_44, s_128_45, s_128_48, s_128_51, s_128_52I, s_128_52, s_128_53, s_128_56, s_128_57, s_128_58, s_128_59, s_128_60, s_128_63, s_128_64I, s_128_64, s_128_65, s_128_68, s_128_69, s_128_70, s_128_73, s_128_74, s_128_77, true_and, and_true, sc0, sc1, sc2, sc3, sc4, Option.toList, List.cons_append, List.nil_append, clr, ne_eq, not_false_eq_true, not_true_eq_false, false_and, and_false, true_or, or_true, or_false, false_or, forall_const, Nat.reduceEqDiff, List.length_nil, List.length_cons, Nat.zero_le, Nat.reduceAdd, Nat.reduceLeDiff, false_implies, true_implies, Int.reduceEq, Int.reduceNe, Int.reduceLT, Int.reduceLE, Int.reduceNeg, Int.reduceToNat, Int.toNat_natCast, Nat.reduceLT, and_self, Decidable.not_not, if_pos h1, kC_1, h3, uM_at]
    simpa using hq
/-- what an act leaves: the State 'now' as behind the act (N), and, if it was done, the State ahead of it on the ring -/
def actI (M N M' : MM) (r : Int) (n sz : Nat) : Prop := eqS M' 5 N 5 ∧ (if r < 0 then pastI M' n sz ∧ (∀ p, 33 ≤ p → p < 145 → M' p = M p) else pastI M' ((n + 1) % 12) (min (sz + 1) 12) ∧ eqS M' (33 + 8 * n) M 5 ∧ ∀ p, 33 ≤ p → p < 145 → (p < 33 + 8 * n ∨ 41 + 8 * n ≤ p) → M' p = M p) ∧ ∀ p, (p < 5 ∨ (13 ≤ p ∧ p < 21) ∨ (30 ≤ p ∧ p < 33) ∨ 145 ≤ p) → M' p = M p
theorem eqS_trans {A B C : MM} {o p q : Nat} (h : eqS A o B p) (h2 : eqS B p C q) : eqS A o C q := by
  obtain ⟨a1, a2, a3, a4, a5⟩ := h
  obtain ⟨b1, b2, b3, b4, b5⟩ := h2
  refine ⟨fun k hk => ⟨(a1 k hk).1.trans (b1 k hk).1, (a1 k hk).2.trans (b1 k hk).2⟩, fun k hk => ⟨(a2 k hk).1.trans (b2 k hk).1, (a2 k hk).2.1.trans (b2 k hk).2.1, (a2 k hk).2.2.1.trans (b2 k hk).2.2.1, (a2 k hk).2.2.2.1.trans (b2 k hk).2.2.2.1, (a2 k hk).2.2.2.2.trans (b2 k hk).2.2.2.2⟩, a3.trans b3, a4.trans b4, a5.trans b5⟩
theorem eqS_of {A B : MM} {o : Nat} (h : ∀ p, o ≤ p → p < o + 8 → A p = B p) : eqS A o B o := by
  refine ⟨fun k hk => ?_, fun k hk => ?_, ?_, ?_, ?_⟩
  · rw [h (o + 1) (by omega) (by omega), h (o + 2) (by omega) (by omega)]; exact ⟨rfl, rfl⟩
  · rw [h (o + 3) (by omega) (by omega), h (o + 4) (by omega) (by omega), h (o + 5) (by omega) (by omega), h (o + 6) (by omega) (by omega), h (o + 7) (by omega) (by omega)]; exact ⟨rfl, rfl, rfl, rfl, rfl⟩
  · rw [h o (by omega) (by omega)]
  · rw [h o (by omega) (by omega)]
  · rw [h o (by omega) (by omega)]
/-- an act done on 'now' alone, between the copy and what is remembered -/
theorem act_core {d n sz : Nat} (hd : 3 ≤ d) (hp : pastI M n sz) (f : MM → MM) (r : MM → Int) (hout : ∀ N p, (p < 5 ∨ 13 ≤ p) → f N p = N p) (heq : ∀ N, (∀ p, p < 21 → N p = M p) → eqS (f N) 5 (f M) 5 ∧ r N = r M) :
    ∃ M1 M2, Ev d 53 [pR 21, pR 5] (kz LC) (PC b) M none (kz LC) (PC b) M1 ∧ Ev d 75 [pR 1, pI (r M1)] (kz LC) (PC b) (f M1) (some (pI (r M1))) (kz LC) (PC b) M2 ∧ r M1 = r M ∧ actI M (f M) M2 (r M) n sz ∧ (∀ p, p < 21 → M1 p = M p) := by
  obtain ⟨r1, P1, M1, hE1, rfl, rfl, e1, e2⟩ := c_take (b := b) (M := M) (o := 21) (q := 5) before_st now_st (by decide) d (by omega)
  have hM1 : ∀ p, p < 21 → M1 p = M p := fun p h => e2 p (Or.inl h)
  have hp1 : pastI (f M1) n sz := by
    obtain ⟨h1, h2, h3, h4⟩ := hp
    have : f M1 29 = M 29 := by rw [hout M1 29 (by omega), e2 29 (by omega)]
    exact ⟨by rw [this]; exact h1, h2, by rw [this]; exact h3, h4⟩
  obtain ⟨r2, P2, M2, hE2, rfl, rfl, e3⟩ := c_remembered (b := b) (r := r M1) hp1 d hd
  obtain ⟨q1, q2⟩ := heq M1 hM1
  refine ⟨M1, M2, hE1, hE2, q2, ?_, hM1⟩
  rw [q2] at e3
  by_cases hr : r M < 0
  · rw [if_pos hr] at e3
    subst e3
    refine ⟨q1, ?_, fun p hp9 => ?_⟩
    · rw [if_pos hr]
      exact ⟨hp1, fun p h1 h2 => by rw [hout M1 p (by omega), e2 p (by omega)]⟩
    · rw [hout M1 p (by omega), e2 p (by omega)]
  · rw [if_neg hr] at e3
    obtain ⟨a1, a2, a3⟩ := e3
    have h12 := hp.2.1
    refine ⟨eqS_trans (eqS_of (fun p h1 h2 => a3 p (by omega) (by omega))) q1, ?_, fun p hp9 => ?_⟩
    · rw [if_neg hr]
      refine ⟨a2, eqS_trans a1 (eqS_trans (eqS_of (fun p h1 h2 => hout M1 p (by omega))) e1), fun p h1 h2 h3 => ?_⟩
      rw [a3 p (by omega) (by omega), hout M1 p (by omega), e2 p (by omega)]
    · rw [a3 p (by omega) (by omega), hout M1 p (by omega), e2 p (by omega)]
end
