/-! the reference: reading a rule, how hard a field is, fields beside each other -/
section
variable {M : MM} {rd ru L : Nat} {T : Nat → Int}
theorem r_heldTop (h : Rdg M rd T L) (hw : M 1 15 = -1) (h14 : M 1 14 = 0) (h40 : L ≤ 40) : Cw 180 177 [pR 1, pI 0] LR (PR rd ru) M (GPost rd ru M (gH T L (gT T L (L + 1) 0) 0)) := by
  have hth : Fwd L (gT T L (L + 1) 0) := gT_f (L + 1) 0
  have hT0 : ThS (4 * (L + 1) + 4) 180 ((0 : Nat) : Int) rd ru L 0 M (gT T L (L + 1) 0) := fun q h1 h2 => r_thing h hw (L + 1) 0 q h2 (by omega) (by omega)
  have hP0 := r_product h hw hth (by omega) hT0
  have hS0 := r_sum h hw (gP_f hth) (by omega) hP0
  have hH0 := r_held h hw (gS_f hth) (by omega) hS0 0 (Nat.le_refl _) (Nat.zero_le _)
  have e : uM M 1 14 ((0 : Nat) : Int) = M := by
    rw [show ((0 : Nat) : Int) = M 1 14 by rw [h14]; rfl]; exact uM_idem
  rw [e] at hH0
  exact Cw_up hH0 (by omega)
theorem r_beginText {mo : Int} : Ct 2 162 [pR 1, pI mo] LR (PR rd ru) M none (PR 4 ru) (uM (uM (uM (uM (uM M 1 12 (M 1 7)) 1 13 mo) 1 14 0) 1 15 (-1)) 1 7 0) := by
  refine Ct_r [some (pR 1), some (pI mo)] (Nat.le_of_ble_eq_true rfl) rfl (fun d hd Q X hq => ?_)
  simp only [s_162_0, s_162_1, s_162_2, s_162_5, s_162_6, s_162_9, s_162_13, s_162_14, s_162_15, s_162_18, true_and, and_true, sc0, sc1, sc2, sc3, sc4, Option.toList, List.cons_append, List.nil_append, clr, ne_eq, not_false_eq_true, not_true_eq_false, false_and, and_false, true_or, or_true, or_false, false_or, forall_const, Nat.reduceEqDiff, List.length_nil, List.length_cons, Nat.zero_le, Nat.reduceAdd, Nat.reduceLeDiff, false_implies, true_implies, Int.reduceEq, Int.reduceNe, Int.reduceLT, Int.reduceLE, Int.reduceNeg, Int.reduceToNat, Int.toNat_natCast, Nat.reduceLT, and_self, Decidable.not_not, kR_1, kR_2, kR_3, kR_4, kR_5, kR_6, kR_7, kR_8, kR_9, kR_10, kR_11, kR_12, kR_13, kR_14, kR_15, kR_16, kR_17, kR_18, kR_19, kR_20, kR_21, kR_22, kR_23, pR_0, pR_5, pR_6, pR_8, pR_11, pR_16, pR_17, pR_18, pR_21, pR_22, pR_23, pR_24, pR_26, pR_28, pR_29, pR_30, pR_33, pR_34, pR_35, pR_38, pR_41, pR_42, pR_43]
  refine s_162_10 (Nat.le_of_ble_eq_true rfl) kR_1 (r_begin (s := 0) (x := 4) (by decide) d (by omega)) ?_
  simp only [s_162_0, s_162_1, s_162_2, s_162_5, s_162_6, s_162_9, s_162_13, s_162_14, s_162_15, s_162_18, true_and, and_true, sc0, sc1, sc2, sc3, sc4, Option.toList, List.cons_append, List.nil_append, clr, ne_eq, not_false_eq_true, not_true_eq_false, false_and, and_false, true_or, or_true, or_false, false_or, forall_const, Nat.reduceEqDiff, List.length_nil, List.length_cons, Nat.zero_le, Nat.reduceAdd, Nat.reduceLeDiff, false_implies, true_implies, Int.reduceEq, Int.reduceNe, Int.reduceLT, Int.reduceLE, Int.reduceNeg, Int.reduceToNat, Int.toNat_natCast, Nat.reduceLT, and_self, Decidable.not_not, kR_1, kR_2, kR_3, kR_4, kR_5, kR_6, kR_7, kR_8, kR_9, kR_10, kR_11, kR_12, kR_13, kR_14, kR_15, kR_16, kR_17, kR_18, kR_19, kR_20, kR_21, kR_22, kR_23, pR_0, pR_5, pR_6, pR_8, pR_11, pR_16, pR_17, pR_18, pR_21, pR_22, pR_23, pR_24, pR_26, pR_28, pR_29, pR_30, pR_33, pR_34, pR_35, pR_38, pR_41, pR_42, pR_43]
  exact hq
/-- the text that was typed -/
def TxR (M : MM) (T : Nat → Int) (ln : Nat) : Prop := M 1 7 = (ln : Int) ∧ ln ≤ 80 ∧ ∀ j, j < 80 → M 4 j % 256 = T j ∧ (-128 ≤ M 4 j ∧ M 4 j < 128)
theorem r_wasRight (hw : M 1 15 = -1) : Ct 3 169 [pR 1] LR (PR rd ru) M (some (pI (if M 1 14 < M 1 12 then (if M 1 14 = -1 then 1 else 0) else 1))) (PR rd ru) (if M 1 14 < M 1 12 then uM M 1 15 (M 1 14) else M) := by
  refine Ct_r [some (pR 1)] (Nat.le_of_ble_eq_true rfl) rfl (fun d hd Q X hq => ?_)
  by_cases c1 : M 1 14 < M 1 12
  · rw [if_pos c1, if_pos c1] at hq
    have e : ¬ M 1 12 ≤ M 1 14 := by omega
    have hf := r_fault (M := M) (rd := rd) (ru := ru) (p := M 1 14)
    rw [if_pos hw] at hf
    have hf2 := r_fine (M := uM M 1 15 (M 1 14)) (rd := rd) (ru := ru)
    rw [show uM M 1 15 (M 1 14) 1 15 = M 1 14 by simp [uM_at]] at hf2
    simp only [s_169_0, s_169_1, s_169_4, s_169_5, s_169_8, s_169_11, s_169_12, s_169_13, s_169_19, s_169_23, true_and, and_true, sc0, sc1, sc2, sc3, sc4, Option.toList, List.cons_append, List.nil_append, clr, ne_eq, not_false_eq_true, not_true_eq_false, false_and, and_false, true_or, or_true, or_false, false_or, forall_const, Nat.reduceEqDiff, List.length_nil, List.length_cons, Nat.zero_le, Nat.reduceAdd, Nat.reduceLeDiff, false_implies, true_implies, Int.reduceEq, Int.reduceNe, Int.reduceLT, Int.reduceLE, Int.reduceNeg, Int.reduceToNat, Int.toNat_natCast, Nat.reduceLT, and_self, Decidable.not_not, kR_1, kR_2, kR_3, kR_4, kR_5, kR_6, kR_7, kR_8, kR_9, kR_10, kR_11, kR_12, kR_13, kR_14, kR_15, kR_16, kR_17, kR_18, kR_19, kR_20, kR_21, kR_22, kR_23, pR_0, pR_5, pR_6, pR_8, pR_11, pR_16, pR_17, pR_18, pR_21, pR_22, pR_23, pR_24, pR_26, pR_28, pR_29, pR_30, pR_33, pR_34, pR_35, pR_38, pR_41, pR_42, pR_43, e]
    refine s_169_16 (Nat.le_of_ble_eq_true rfl) kR_1 (hf d (by omega)) ?_
    simp only [s_169_0, s_169_1, s_169_4, s_169_5, s_169_8, s_169_11, s_169_12, s_169_13, s_169_19, s_169_23, true_and, and_true, sc0, sc1, sc2, sc3, sc4, Option.toList, List.cons_append, List.nil_append, clr, ne_eq, not_false_eq_true, not_true_eq_false, false_and, and_false, true_or, or_true, or_false, false_or, forall_const, Nat.reduceEqDiff, List.length_nil, List.length_cons, Nat.zero_le, Nat.reduceAdd, Nat.reduceLeDiff, false_implies, true_implies, Int.reduceEq, Int.reduceNe, Int.reduceLT, Int.reduceLE, Int.reduceNeg, Int.reduceToNat, Int.toNat_natCast, Nat.reduceLT, and_self, Decidable.not_not, kR_1, kR_2, kR_3, kR_4, kR_5, kR_6, kR_7, kR_8, kR_9, kR_10, kR_11, kR_12, kR_13, kR_14, kR_15, kR_16, kR_17, kR_18, kR_19, kR_20, kR_21, kR_22, kR_23, pR_0, pR_5, pR_6, pR_8, pR_11, pR_16, pR_17, pR_18, pR_21, pR_22, pR_23, pR_24, pR_26, pR_28, pR_29, pR_30, pR_33, pR_34, pR_35, pR_38, pR_41, pR_42, pR_43]
    refine s_169_20 (Nat.le_of_ble_eq_true rfl) kR_1 (hf2 d (by omega)) ?_
    by_cases c2 : M 1 14 = -1
    · rw [if_pos c2] at hq ⊢
      simp only [s_169_0, s_169_1, s_169_4, s_169_5, s_169_8, s_169_11, s_169_12, s_169_13, s_169_19, s_169_23, true_and, and_true, sc0, sc1, sc2, sc3, sc4, Option.toList, List.cons_append, List.nil_append, clr, ne_eq, not_false_eq_true, not_true_eq_false, false_and, and_false, true_or, or_true, or_false, false_or, forall_const, Nat.reduceEqDiff, List.length_nil, List.length_cons, Nat.zero_le, Nat.reduceAdd, Nat.reduceLeDiff, false_implies, true_implies, Int.reduceEq, Int.reduceNe, Int.reduceLT, Int.reduceLE, Int.reduceNeg, Int.reduceToNat, Int.toNat_natCast, Nat.reduceLT, and_self, Decidable.not_not, kR_1, kR_2, kR_3, kR_4, kR_5, kR_6, kR_7, kR_8, kR_9, kR_10, kR_11, kR_12, kR_13, kR_14, kR_15, kR_16, kR_17, kR_18, kR_19, kR_20, kR_21, kR_22, kR_23, pR_0, pR_5, pR_6, pR_8, pR_11, pR_16, pR_17, pR_18, pR_21, pR_22, pR_23, pR_24, pR_26, pR_28, pR_29, pR_30, pR_33, pR_34, pR_35, pR_38, pR_41, pR_42, pR_43]
      exact hq
    · rw [if_neg c2] at hq ⊢
      simp only [s_169_0, s_169_1, s_169_4, s_169_5, s_169_8, s_169_11, s_169_12, s_169_13, s_169_19, s_169_23, true_and, and_true, sc0, sc1, sc2, sc3, sc4, Option.toList, List.cons_append, List.nil_append, clr, ne_eq, not_false_eq_true, not_true_eq_false, false_and, and_false, true_or, or_true, or_false, false_or, forall_const, Nat.reduceEqDiff, List.length_nil, List.length_cons, Nat.zero_le, Nat.reduceAdd, Nat.reduceLeDiff, false_implies, true_implies, Int.reduceEq, Int.reduceNe, Int.reduceLT, Int.reduceLE, Int.reduceNeg, Int.reduceToNat, Int.toNat_natCast, Nat.reduceLT, and_self, Decidable.not_not, kR_1, kR_2, kR_3, kR_4, kR_5, kR_6, kR_7, kR_8, kR_9, kR_10, kR_11, kR_12, kR_13, kR_14, kR_15, kR_16, kR_17, kR_18, kR_19, kR_20, kR_21, kR_22, kR_23, pR_0, pR_5, pR_6, pR_8, pR_11, pR_16, pR_17, pR_18, pR_21, pR_22, pR_23, pR_24, pR_26, pR_28, pR_29, pR_30, pR_33, pR_34, pR_35, pR_38, pR_41, pR_42, pR_43]
      exact hq
  · rw [if_neg c1, if_neg c1] at hq
    have e : M 1 12 ≤ M 1 14 := by omega
    have hf2 := r_fine (M := M) (rd := rd) (ru := ru)
    rw [if_pos hw] at hf2
    simp only [s_169_0, s_169_1, s_169_4, s_169_5, s_169_8, s_169_11, s_169_12, s_169_13, s_169_19, s_169_23, true_and, and_true, sc0, sc1, sc2, sc3, sc4, Option.toList, List.cons_append, List.nil_append, clr, ne_eq, not_false_eq_true, not_true_eq_false, false_and, and_false, true_or, or_true, or_false, false_or, forall_const, Nat.reduceEqDiff, List.length_nil, List.length_cons, Nat.zero_le, Nat.reduceAdd, Nat.reduceLeDiff, false_implies, true_implies, Int.reduceEq, Int.reduceNe, Int.reduceLT, Int.reduceLE, Int.reduceNeg, Int.reduceToNat, Int.toNat_natCast, Nat.reduceLT, and_self, Decidable.not_not, kR_1, kR_2, kR_3, kR_4, kR_5, kR_6, kR_7, kR_8, kR_9, kR_10, kR_11, kR_12, kR_13, kR_14, kR_15, kR_16, kR_17, kR_18, kR_19, kR_20, kR_21, kR_22, kR_23, pR_0, pR_5, pR_6, pR_8, pR_11, pR_16, pR_17, pR_18, pR_21, pR_22, pR_23, pR_24, pR_26, pR_28, pR_29, pR_30, pR_33, pR_34, pR_35, pR_38, pR_41, pR_42, pR_43, e]
    refine s_169_20 (Nat.le_of_ble_eq_true rfl) kR_1 (hf2 d (by omega)) ?_
    simp only [s_169_0, s_169_1, s_169_4, s_169_5, s_169_8, s_169_11, s_169_12, s_169_13, s_169_19, s_169_23, true_and, and_true, sc0, sc1, sc2, sc3, sc4, Option.toList, List.cons_append, List.nil_append, clr, ne_eq, not_false_eq_true, not_true_eq_false, false_and, and_false, true_or, or_true, or_false, false_or, forall_const, Nat.reduceEqDiff, List.length_nil, List.length_cons, Nat.zero_le, Nat.reduceAdd, Nat.reduceLeDiff, false_implies, true_implies, Int.reduceEq, Int.reduceNe, Int.reduceLT, Int.reduceLE, Int.reduceNeg, Int.reduceToNat, Int.toNat_natCast, Nat.reduceLT, and_self, Decidable.not_not, kR_1, kR_2, kR_3, kR_4, kR_5, kR_6, kR_7, kR_8, kR_9, kR_10, kR_11, kR_12, kR_13, kR_14, kR_15, kR_16, kR_17, kR_18, kR_19, kR_20, kR_21, kR_22, kR_23, pR_0, pR_5, pR_6, pR_8, pR_11, pR_16, pR_17, pR_18, pR_21, pR_22, pR_23, pR_24, pR_26, pR_28, pR_29, pR_30, pR_33, pR_34, pR_35, pR_38, pR_41, pR_42, pR_43]
    exact hq
theorem r_wasRight_no {w : Nat} (hw : M 1 15 = (w : Int)) : Ct 3 169 [pR 1] LR (PR rd ru) M (some (pI 0)) (PR rd ru) M := by
  refine Ct_r [some (pR 1)] (Nat.le_of_ble_eq_true rfl) rfl (fun d hd Q X hq => ?_)
  have hne : ¬ M 1 15 = -1 := by omega
  have hf := r_fault (M := M) (rd := rd) (ru := ru) (p := M 1 14)
  rw [if_neg hne] at hf
  have hf2 := r_fine (M := M) (rd := rd) (ru := ru)
  rw [if_neg hne] at hf2
  by_cases c1 : M 1 12 ≤ M 1 14
  · simp only [s_169_0, s_169_1, s_169_4, s_169_5, s_169_8, s_169_11, s_169_12, s_169_13, s_169_19, s_169_23, true_and, and_true, sc0, sc1, sc2, sc3, sc4, Option.toList, List.cons_append, List.nil_append, clr, ne_eq, not_false_eq_true, not_true_eq_false, false_and, and_false, true_or, or_true, or_false, false_or, forall_const, Nat.reduceEqDiff, List.length_nil, List.length_cons, Nat.zero_le, Nat.reduceAdd, Nat.reduceLeDiff, false_implies, true_implies, Int.reduceEq, Int.reduceNe, Int.reduceLT, Int.reduceLE, Int.reduceNeg, Int.reduceToNat, Int.toNat_natCast, Nat.reduceLT, and_self, Decidable.not_not, kR_1, kR_2, kR_3, kR_4, kR_5, kR_6, kR_7, kR_8, kR_9, kR_10, kR_11, kR_12, kR_13, kR_14, kR_15, kR_16, kR_17, kR_18, kR_19, kR_20, kR_21, kR_22, kR_23, pR_0, pR_5, pR_6, pR_8, pR_11, pR_16, pR_17, pR_18, pR_21, pR_22, pR_23, pR_24, pR_26, pR_28, pR_29, pR_30, pR_33, pR_34, pR_35, pR_38, pR_41, pR_42, pR_43, c1]
    refine s_169_20 (Nat.le_of_ble_eq_true rfl) kR_1 (hf2 d (by omega)) ?_
    simp only [s_169_0, s_169_1, s_169_4, s_169_5, s_169_8, s_169_11, s_169_12, s_169_13, s_169_19, s_169_23, true_and, and_true, sc0, sc1, sc2, sc3, sc4, Option.toList, List.cons_append, List.nil_append, clr, ne_eq, not_false_eq_true, not_true_eq_false, false_and, and_false, true_or, or_true, or_false, false_or, forall_const, Nat.reduceEqDiff, List.length_nil, List.length_cons, Nat.zero_le, Nat.reduceAdd, Nat.reduceLeDiff, false_implies, true_implies, Int.reduceEq, Int.reduceNe, Int.reduceLT, Int.reduceLE, Int.reduceNeg, Int.reduceToNat, Int.toNat_natCast, Nat.reduceLT, and_self, Decidable.not_not, kR_1, kR_2, kR_3, kR_4, kR_5, kR_6, kR_7, kR_8, kR_9, kR_10, kR_11, kR_12, kR_13, kR_14, kR_15, kR_16, kR_17, kR_18, kR_19, kR_20, kR_21, kR_22, kR_23, pR_0, pR_5, pR_6, pR_8, pR_11, pR_16, pR_17, pR_18, pR_21, pR_22, pR_23, pR_24, pR_26, pR_28, pR_29, pR_30, pR_33, pR_34, pR_35, pR_38, pR_41, pR_42, pR_43]
    exact hq
  · simp only [s_169_0, s_169_1, s_169_4, s_169_5, s_169_8, s_169_11, s_169_12, s_169_13, s_169_19, s_169_23, true_and, and_true, sc0, sc1, sc2, sc3, sc4, Option.toList, List.cons_append, List.nil_append, clr, ne_eq, not_false_eq_true, not_true_eq_false, false_and, and_false, true_or, or_true, or_false, false_or, forall_const, Nat.reduceEqDiff, List.length_nil, List.length_cons, Nat.zero_le, Nat.reduceAdd, Nat.reduceLeDiff, false_implies, true_implies, Int.reduceEq, Int.reduceNe, Int.reduceLT, Int.reduceLE, Int.reduceNeg, Int.reduceToNat, Int.toNat_natCast, Nat.reduceLT, and_self, Decidable.not_not, kR_1, kR_2, kR_3, kR_4, kR_5, kR_6, kR_7, kR_8, kR_9, kR_10, kR_11, kR_12, kR_13, kR_14, kR_15, kR_16, kR_17, kR_18, kR_19, kR_20, kR_21, kR_22, kR_23, pR_0, pR_5, pR_6, pR_8, pR_11, pR_16, pR_17, pR_18, pR_21, pR_22, pR_23, pR_24, pR_26, pR_28, pR_29, pR_30, pR_33, pR_34, pR_35, pR_38, pR_41, pR_42, pR_43, c1]
    refine s_169_16 (Nat.le_of_ble_eq_true rfl) kR_1 (hf d (by omega)) ?_
    simp only [s_169_0, s_169_1, s_169_4, s_169_5, s_169_8, s_169_11, s_169_12, s_169_13, s_169_19, s_169_23, true_and, and_true, sc0, sc1, sc2, sc3, sc4, Option.toList, List.cons_append, List.nil_append, clr, ne_eq, not_false_eq_true, not_true_eq_false, false_and, and_false, true_or, or_true, or_false, false_or, forall_const, Nat.reduceEqDiff, List.length_nil, List.length_cons, Nat.zero_le, Nat.reduceAdd, Nat.reduceLeDiff, false_implies, true_implies, Int.reduceEq, Int.reduceNe, Int.reduceLT, Int.reduceLE, Int.reduceNeg, Int.reduceToNat, Int.toNat_natCast, Nat.reduceLT, and_self, Decidable.not_not, kR_1, kR_2, kR_3, kR_4, kR_5, kR_6, kR_7, kR_8, kR_9, kR_10, kR_11, kR_12, kR_13, kR_14, kR_15, kR_16, kR_17, kR_18, kR_19, kR_20, kR_21, kR_22, kR_23, pR_0, pR_5, pR_6, pR_8, pR_11, pR_16, pR_17, pR_18, pR_21, pR_22, pR_23, pR_24, pR_26, pR_28, pR_29, pR_30, pR_33, pR_34, pR_35, pR_38, pR_41, pR_42, pR_43]
    refine s_169_20 (Nat.le_of_ble_eq_true rfl) kR_1 (hf2 d (by omega)) ?_
    simp only [s_169_0, s_169_1, s_169_4, s_169_5, s_169_8, s_169_11, s_169_12, s_169_13, s_169_19, s_169_23, true_and, and_true, sc0, sc1, sc2, sc3, sc4, Option.toList, List.cons_append, List.nil_append, clr, ne_eq, not_false_eq_true, not_true_eq_false, false_and, and_false, true_or, or_true, or_false, false_or, forall_const, Nat.reduceEqDiff, List.length_nil, List.length_cons, Nat.zero_le, Nat.reduceAdd, Nat.reduceLeDiff, false_implies, true_implies, Int.reduceEq, Int.reduceNe, Int.reduceLT, Int.reduceLE, Int.reduceNeg, Int.reduceToNat, Int.toNat_natCast, Nat.reduceLT, and_self, Decidable.not_not, kR_1, kR_2, kR_3, kR_4, kR_5, kR_6, kR_7, kR_8, kR_9, kR_10, kR_11, kR_12, kR_13, kR_14, kR_15, kR_16, kR_17, kR_18, kR_19, kR_20, kR_21, kR_22, kR_23, pR_0, pR_5, pR_6, pR_8, pR_11, pR_16, pR_17, pR_18, pR_21, pR_22, pR_23, pR_24, pR_26, pR_28, pR_29, pR_30, pR_33, pR_34, pR_35, pR_38, pR_41, pR_42, pR_43]
    exact hq
theorem gRead_l {ln w : Nat} (h0 : ¬ ln = 0) (h : gH T (min ln 40) (gT T (min ln 40) (min ln 40 + 1) 0) 0 = Sum.inl w) : gRead T ln = Sum.inl w := by
  unfold gRead; rw [if_neg h0, h]
theorem gRead_r {ln p : Nat} {v : GV} (h0 : ¬ ln = 0) (h : gH T (min ln 40) (gT T (min ln 40) (min ln 40 + 1) 0) 0 = Sum.inr (v, p)) : gRead T ln = if p < ln then Sum.inl p else Sum.inr v := by
  unfold gRead; rw [if_neg h0, h]
theorem r_readRule {ln : Nat} (hX : TxR M T ln) : Cw 181 176 [pR 1] LR (PR rd ru) M (fun v P' M' => P' = PR 4 ru ∧ Fr [7, 12, 13, 14, 15, 20] [] M M' ∧ M' 1 7 = 0 ∧ (∀ w, gRead T ln = Sum.inl w → v = some (pI 0) ∧ M' 1 15 = (w : Int)) ∧ (∀ V, gRead T ln = Sum.inr V → v = some (pI 1))) := by
  refine Cw_k [some (pR 1)] (Nat.le_of_ble_eq_true rfl) rfl (fun d hd Q X hQ => ?_)
  obtain ⟨x1, x2, x3⟩ := hX
  simp only [s_176_0, s_176_1, s_176_6, s_176_7, s_176_8, s_176_11, s_176_12, s_176_15, s_176_18, s_176_19, s_176_23, s_176_23R, s_176_24, s_176_28, true_and, and_true, sc0, sc1, sc2, sc3, sc4, Option.toList, List.cons_append, List.nil_append, clr, ne_eq, not_false_eq_true, not_true_eq_false, false_and, and_false, true_or, or_true, or_false, false_or, forall_const, Nat.reduceEqDiff, List.length_nil, List.length_cons, Nat.zero_le, Nat.reduceAdd, Nat.reduceLeDiff, false_implies, true_implies, Int.reduceEq, Int.reduceNe, Int.reduceLT, Int.reduceLE, Int.reduceNeg, Int.reduceToNat, Int.toNat_natCast, Nat.reduceLT, and_self, Decidable.not_not, kR_1, kR_2, kR_3, kR_4, kR_5, kR_6, kR_7, kR_8, kR_9, kR_10, kR_11, kR_12, kR_13, kR_14, kR_15, kR_16, kR_17, kR_18, kR_19, kR_20, kR_21, kR_22, kR_23, pR_0, pR_5, pR_6, pR_8, pR_11, pR_16, pR_17, pR_18, pR_21, pR_22, pR_23, pR_24, pR_26, pR_28, pR_29, pR_30, pR_33, pR_34, pR_35, pR_38, pR_41, pR_42, pR_43]
  refine s_176_3 (Nat.le_of_ble_eq_true rfl) kR_1 (r_beginText d (by omega)) ?_
  rw [x1]
  generalize hN : uM (uM (uM (uM (uM (uM M 1 12 (ln : Int)) 1 13 40) 1 14 0) 1 15 (-1)) 1 7 0) 1 20 0 = N
  have f0 : Fr [7, 12, 13, 14, 15, 20] [] M N := by
    rw [← hN]
    exact Fr_1 (Fr_1 (Fr_1 (Fr_1 (Fr_1 (Fr_1 Fr_refl (by decide)) (by decide)) (by decide)) (by decide)) (by decide)) (by decide)
  have n7 : N 1 7 = 0 := by rw [← hN]; simp [uM_at]
  have n12 : N 1 12 = (ln : Int) := by rw [← hN]; simp [uM_at]
  have n13 : N 1 13 = ((40 : Nat) : Int) := by rw [← hN]; simp [uM_at]
  have n14 : N 1 14 = 0 := by rw [← hN]; simp [uM_at]
  have n15 : N 1 15 = -1 := by rw [← hN]; simp [uM_at]
  have n4 : N 4 = M 4 := f0.2 4 (by decide) (by decide)
  have hR : Rdg N 4 T (min ln 40) := ⟨Or.inl rfl, ln, 40, n12, n13, rfl, x2, by decide, by rw [if_pos rfl]; omega, fun j hj => by rw [n4]; exact ⟨(x3 j (by omega)).1.symm, (x3 j (by omega)).2⟩⟩
  simp only [s_176_0, s_176_1, s_176_6, s_176_7, s_176_8, s_176_11, s_176_12, s_176_15, s_176_18, s_176_19, s_176_23, s_176_23R, s_176_28, true_and, and_true, sc0, sc1, sc2, sc3, sc4, Option.toList, List.cons_append, List.nil_append, clr, ne_eq, not_false_eq_true, not_true_eq_false, false_and, and_false, true_or, or_true, or_false, false_or, forall_const, Nat.reduceEqDiff, List.length_nil, List.length_cons, Nat.zero_le, Nat.reduceAdd, Nat.reduceLeDiff, false_implies, true_implies, Int.reduceEq, Int.reduceNe, Int.reduceLT, Int.reduceLE, Int.reduceNeg, Int.reduceToNat, Int.toNat_natCast, Nat.reduceLT, and_self, Decidable.not_not, kR_1, kR_2, kR_3, kR_4, kR_5, kR_6, kR_7, kR_8, kR_9, kR_10, kR_11, kR_12, kR_13, kR_14, kR_15, kR_16, kR_17, kR_18, kR_19, kR_20, kR_21, kR_22, kR_23, pR_0, pR_5, pR_6, pR_8, pR_11, pR_16, pR_17, pR_18, pR_21, pR_22, pR_23, pR_24, pR_26, pR_28, pR_29, pR_30, pR_33, pR_34, pR_35, pR_38, pR_41, pR_42, pR_43, hN, n12]
  have fin : ∀ (K : MM) (res : Nat ⊕ GV), gRead T ln = res → Fr [7, 12, 13, 14, 15, 20] [] M K → K 1 7 = 0 → (∀ w, res = Sum.inl w → ∃ K', Ct 3 169 [pR 1] LR (PR 4 ru) K (some (pI 0)) (PR 4 ru) K' ∧ Fr [7, 12, 13, 14, 15, 20] [] M K' ∧ K' 1 7 = 0 ∧ K' 1 15 = (w : Int)) → (∀ V, res = Sum.inr V → ∃ K', Ct 3 169 [pR 1] LR (PR 4 ru) K (some (pI 1)) (PR 4 ru) K' ∧ Fr [7, 12, 13, 14, 15, 20] [] M K' ∧ K' 1 7 = 0) → wpB (Ev d) 176 Q X 24 [some (pR 1)] [] (kz LR) (PR 4 ru) K := by
    intro K res hres hF h7 hl hr
    cases res with
    | inl w =>
      obtain ⟨K', k1, k2, k3, k4⟩ := hl w rfl
      simp only [s_176_0, s_176_1, s_176_6, s_176_7, s_176_8, s_176_11, s_176_12, s_176_15, s_176_18, s_176_19, s_176_23, s_176_23R, s_176_24, s_176_28, true_and, and_true, sc0, sc1, sc2, sc3, sc4, Option.toList, List.cons_append, List.nil_append, clr, ne_eq, not_false_eq_true, not_true_eq_false, false_and, and_false, true_or, or_true, or_false, false_or, forall_const, Nat.reduceEqDiff, List.length_nil, List.length_cons, Nat.zero_le, Nat.reduceAdd, Nat.reduceLeDiff, false_implies, true_implies, Int.reduceEq, Int.reduceNe, Int.reduceLT, Int.reduceLE, Int.reduceNeg, Int.reduceToNat, Int.toNat_natCast, Nat.reduceLT, and_self, Decidable.not_not, kR_1, kR_2, kR_3, kR_4, kR_5, kR_6, kR_7, kR_8, kR_9, kR_10, kR_11, kR_12, kR_13, kR_14, kR_15, kR_16, kR_17, kR_18, kR_19, kR_20, kR_21, kR_22, kR_23, pR_0, pR_5, pR_6, pR_8, pR_11, pR_16, pR_17, pR_18, pR_21, pR_22, pR_23, pR_24, pR_26, pR_28, pR_29, pR_30, pR_33, pR_34, pR_35, pR_38, pR_41, pR_42, pR_43]
      refine s_176_25 (Nat.le_of_ble_eq_true rfl) kR_1 (k1 d (by omega)) ?_
      simp only [s_176_0, s_176_1, s_176_6, s_176_7, s_176_8, s_176_11, s_176_12, s_176_15, s_176_18, s_176_19, s_176_23, s_176_23R, s_176_24, s_176_28, true_and, and_true, sc0, sc1, sc2, sc3, sc4, Option.toList, List.cons_append, List.nil_append, clr, ne_eq, not_false_eq_true, not_true_eq_false, false_and, and_false, true_or, or_true, or_false, false_or, forall_const, Nat.reduceEqDiff, List.length_nil, List.length_cons, Nat.zero_le, Nat.reduceAdd, Nat.reduceLeDiff, false_implies, true_implies, Int.reduceEq, Int.reduceNe, Int.reduceLT, Int.reduceLE, Int.reduceNeg, Int.reduceToNat, Int.toNat_natCast, Nat.reduceLT, and_self, Decidable.not_not, kR_1, kR_2, kR_3, kR_4, kR_5, kR_6, kR_7, kR_8, kR_9, kR_10, kR_11, kR_12, kR_13, kR_14, kR_15, kR_16, kR_17, kR_18, kR_19, kR_20, kR_21, kR_22, kR_23, pR_0, pR_5, pR_6, pR_8, pR_11, pR_16, pR_17, pR_18, pR_21, pR_22, pR_23, pR_24, pR_26, pR_28, pR_29, pR_30, pR_33, pR_34, pR_35, pR_38, pR_41, pR_42, pR_43]
      refine hQ _ _ _ ⟨rfl, k2, k3, fun w' hw' => ?_, fun V hV => ?_⟩
      · rw [hres] at hw'
        obtain rfl := Sum.inl.inj hw'
        exact ⟨rfl, k4⟩
      · rw [hres] at hV; cases hV
    | inr V =>
      obtain ⟨K', k1, k2, k3⟩ := hr V rfl
      simp only [s_176_0, s_176_1, s_176_6, s_176_7, s_176_8, s_176_11, s_176_12, s_176_15, s_176_18, s_176_19, s_176_23, s_176_23R, s_176_24, s_176_28, true_and, and_true, sc0, sc1, sc2, sc3, sc4, Option.toList, List.cons_append, List.nil_append, clr, ne_eq, not_false_eq_true, not_true_eq_false, false_and, and_false, true_or, or_true, or_false, false_or, forall_const, Nat.reduceEqDiff, List.length_nil, List.length_cons, Nat.zero_le, Nat.reduceAdd, Nat.reduceLeDiff, false_implies, true_implies, Int.reduceEq, Int.reduceNe, Int.reduceLT, Int.reduceLE, Int.reduceNeg, Int.reduceToNat, Int.toNat_natCast, Nat.reduceLT, and_self, Decidable.not_not, kR_1, kR_2, kR_3, kR_4, kR_5, kR_6, kR_7, kR_8, kR_9, kR_10, kR_11, kR_12, kR_13, kR_14, kR_15, kR_16, kR_17, kR_18, kR_19, kR_20, kR_21, kR_22, kR_23, pR_0, pR_5, pR_6, pR_8, pR_11, pR_16, pR_17, pR_18, pR_21, pR_22, pR_23, pR_24, pR_26, pR_28, pR_29, pR_30, pR_33, pR_34, pR_35, pR_38, pR_41, pR_42, pR_43]
      refine s_176_25 (Nat.le_of_ble_eq_true rfl) kR_1 (k1 d (by omega)) ?_
      simp only [s_176_0, s_176_1, s_176_6, s_176_7, s_176_8, s_176_11, s_176_12, s_176_15, s_176_18, s_176_19, s_176_23, s_176_23R, s_176_24, s_176_28, true_and, and_true, sc0, sc1, sc2, sc3, sc4, Option.toList, List.cons_append, List.nil_append, clr, ne_eq, not_false_eq_true, not_true_eq_false, false_and, and_false, true_or, or_true, or_false, false_or, forall_const, Nat.reduceEqDiff, List.length_nil, List.length_cons, Nat.zero_le, Nat.reduceAdd, Nat.reduceLeDiff, false_implies, true_implies, Int.reduceEq, Int.reduceNe, Int.reduceLT, Int.reduceLE, Int.reduceNeg, Int.reduceToNat, Int.toNat_natCast, Nat.reduceLT, and_self, Decidable.not_not, kR_1, kR_2, kR_3, kR_4, kR_5, kR_6, kR_7, kR_8, kR_9, kR_10, kR_11, kR_12, kR_13, kR_14, kR_15, kR_16, kR_17, kR_18, kR_19, kR_20, kR_21, kR_22, kR_23, pR_0, pR_5, pR_6, pR_8, pR_11, pR_16, pR_17, pR_18, pR_21, pR_22, pR_23, pR_24, pR_26, pR_28, pR_29, pR_30, pR_33, pR_34, pR_35, pR_38, pR_41, pR_42, pR_43]
      refine hQ _ _ _ ⟨rfl, k2, k3, fun w' hw' => ?_, fun V' hV => rfl⟩
      rw [hres] at hw'; cases hw'
  by_cases c0 : ln = 0
  · have e : (ln : Int) ≤ 0 := by omega
    simp only [s_176_0, s_176_1, s_176_6, s_176_7, s_176_8, s_176_11, s_176_12, s_176_15, s_176_18, s_176_19, s_176_23, s_176_23R, s_176_28, true_and, and_true, sc0, sc1, sc2, sc3, sc4, Option.toList, List.cons_append, List.nil_append, clr, ne_eq, not_false_eq_true, not_true_eq_false, false_and, and_false, true_or, or_true, or_false, false_or, forall_const, Nat.reduceEqDiff, List.length_nil, List.length_cons, Nat.zero_le, Nat.reduceAdd, Nat.reduceLeDiff, false_implies, true_implies, Int.reduceEq, Int.reduceNe, Int.reduceLT, Int.reduceLE, Int.reduceNeg, Int.reduceToNat, Int.toNat_natCast, Nat.reduceLT, and_self, Decidable.not_not, kR_1, kR_2, kR_3, kR_4, kR_5, kR_6, kR_7, kR_8, kR_9, kR_10, kR_11, kR_12, kR_13, kR_14, kR_15, kR_16, kR_17, kR_18, kR_19, kR_20, kR_21, kR_22, kR_23, pR_0, pR_5, pR_6, pR_8, pR_11, pR_16, pR_17, pR_18, pR_21, pR_22, pR_23, pR_24, pR_26, pR_28, pR_29, pR_30, pR_33, pR_34, pR_35, pR_38, pR_41, pR_42, pR_43, e]
    refine fin N (Sum.inr plainV) (by unfold gRead; rw [if_pos c0]) f0 n7 (fun w hw => by cases hw) (fun V _ => ?_)
    have := r_wasRight (rd := 4) (ru := ru) n15
    rw [if_neg (by omega), if_neg (by omega)] at this
    exact ⟨N, this, f0, n7⟩
  · have e : ¬ (ln : Int) ≤ 0 := by omega
    simp only [s_176_0, s_176_1, s_176_6, s_176_7, s_176_8, s_176_11, s_176_12, s_176_15, s_176_18, s_176_19, s_176_23, s_176_23R, s_176_28, true_and, and_true, sc0, sc1, sc2, sc3, sc4, Option.toList, List.cons_append, List.nil_append, clr, ne_eq, not_false_eq_true, not_true_eq_false, false_and, and_false, true_or, or_true, or_false, false_or, forall_const, Nat.reduceEqDiff, List.length_nil, List.length_cons, Nat.zero_le, Nat.reduceAdd, Nat.reduceLeDiff, false_implies, true_implies, Int.reduceEq, Int.reduceNe, Int.reduceLT, Int.reduceLE, Int.reduceNeg, Int.reduceToNat, Int.toNat_natCast, Nat.reduceLT, and_self, Decidable.not_not, kR_1, kR_2, kR_3, kR_4, kR_5, kR_6, kR_7, kR_8, kR_9, kR_10, kR_11, kR_12, kR_13, kR_14, kR_15, kR_16, kR_17, kR_18, kR_19, kR_20, kR_21, kR_22, kR_23, pR_0, pR_5, pR_6, pR_8, pR_11, pR_16, pR_17, pR_18, pR_21, pR_22, pR_23, pR_24, pR_26, pR_28, pR_29, pR_30, pR_33, pR_34, pR_35, pR_38, pR_41, pR_42, pR_43, e]
    obtain ⟨v, P', K, hE, hP, hx⟩ := r_heldTop (ru := ru) hR n15 n14 (by omega) d (by omega)
    subst hP
    refine s_176_20 (Nat.le_of_ble_eq_true rfl) kR_1 hE ?_
    rcases hx with ⟨w, a, hr, ⟨u, hu⟩, hK⟩ | ⟨v0, p, hr, hu, hK⟩
    · subst hu; subst hK
      have hdef := gRead_l c0 hr
      simp only [s_176_0, s_176_1, s_176_6, s_176_7, s_176_8, s_176_11, s_176_12, s_176_15, s_176_18, s_176_19, s_176_23, s_176_23R, s_176_28, true_and, and_true, sc0, sc1, sc2, sc3, sc4, Option.toList, List.cons_append, List.nil_append, clr, ne_eq, not_false_eq_true, not_true_eq_false, false_and, and_false, true_or, or_true, or_false, false_or, forall_const, Nat.reduceEqDiff, List.length_nil, List.length_cons, Nat.zero_le, Nat.reduceAdd, Nat.reduceLeDiff, false_implies, true_implies, Int.reduceEq, Int.reduceNe, Int.reduceLT, Int.reduceLE, Int.reduceNeg, Int.reduceToNat, Int.toNat_natCast, Nat.reduceLT, and_self, Decidable.not_not, kR_1, kR_2, kR_3, kR_4, kR_5, kR_6, kR_7, kR_8, kR_9, kR_10, kR_11, kR_12, kR_13, kR_14, kR_15, kR_16, kR_17, kR_18, kR_19, kR_20, kR_21, kR_22, kR_23, pR_0, pR_5, pR_6, pR_8, pR_11, pR_16, pR_17, pR_18, pR_21, pR_22, pR_23, pR_24, pR_26, pR_28, pR_29, pR_30, pR_33, pR_34, pR_35, pR_38, pR_41, pR_42, pR_43]
      have hFK : Fr [7, 12, 13, 14, 15, 20] [] M (uM (uM N 1 14 (a : Int)) 1 15 (w : Int)) := Fr_1 (Fr_1 f0 (by decide)) (by decide)
      have h7K : uM (uM N 1 14 (a : Int)) 1 15 (w : Int) 1 7 = 0 := by simp [uM_at, n7]
      refine fin _ (Sum.inl w) hdef hFK h7K (fun w' hw' => ?_) (fun V hV => by cases hV)
      obtain rfl := Sum.inl.inj hw'
      exact ⟨_, r_wasRight_no (w := w) (by simp [uM_at]), hFK, h7K, by simp [uM_at]⟩
    · subst hu; subst hK
      have hdef := gRead_r c0 hr
      simp only [s_176_0, s_176_1, s_176_6, s_176_7, s_176_8, s_176_11, s_176_12, s_176_15, s_176_18, s_176_19, s_176_23, s_176_23R, s_176_28, true_and, and_true, sc0, sc1, sc2, sc3, sc4, Option.toList, List.cons_append, List.nil_append, clr, ne_eq, not_false_eq_true, not_true_eq_false, false_and, and_false, true_or, or_true, or_false, false_or, forall_const, Nat.reduceEqDiff, List.length_nil, List.length_cons, Nat.zero_le, Nat.reduceAdd, Nat.reduceLeDiff, false_implies, true_implies, Int.reduceEq, Int.reduceNe, Int.reduceLT, Int.reduceLE, Int.reduceNeg, Int.reduceToNat, Int.toNat_natCast, Nat.reduceLT, and_self, Decidable.not_not, kR_1, kR_2, kR_3, kR_4, kR_5, kR_6, kR_7, kR_8, kR_9, kR_10, kR_11, kR_12, kR_13, kR_14, kR_15, kR_16, kR_17, kR_18, kR_19, kR_20, kR_21, kR_22, kR_23, pR_0, pR_5, pR_6, pR_8, pR_11, pR_16, pR_17, pR_18, pR_21, pR_22, pR_23, pR_24, pR_26, pR_28, pR_29, pR_30, pR_33, pR_34, pR_35, pR_38, pR_41, pR_42, pR_43]
      have hFK : Fr [7, 12, 13, 14, 15, 20] [] M (uM N 1 14 (p : Int)) := Fr_1 f0 (by decide)
      have h7K : uM N 1 14 (p : Int) 1 7 = 0 := by simp [uM_at, n7]
      have k14 : uM N 1 14 (p : Int) 1 14 = (p : Int) := by simp [uM_at]
      have k12 : uM N 1 14 (p : Int) 1 12 = (ln : Int) := by simp [uM_at, n12]
      have k15 : uM N 1 14 (p : Int) 1 15 = -1 := by simp [uM_at, n15]
      have hwr := r_wasRight (rd := 4) (ru := ru) k15
      by_cases c2 : p < ln
      · have hdef2 : gRead T ln = Sum.inl p := by rw [hdef]; exact if_pos c2
        have q1 : (p : Int) < (ln : Int) := by omega
        have q2 : ¬ (p : Int) = -1 := by omega
        simp only [k14, k12, q1, q2, if_true, if_false] at hwr
        refine fin _ (Sum.inl p) hdef2 hFK h7K (fun w' hw' => ?_) (fun V hV => by cases hV)
        obtain rfl := Sum.inl.inj hw'
        exact ⟨_, hwr, Fr_1 hFK (by decide), by simp [uM_at, n7], by simp [uM_at]⟩
      · have hdef2 : gRead T ln = Sum.inr v0 := by rw [hdef]; exact if_neg c2
        have q1 : ¬ (p : Int) < (ln : Int) := by omega
        simp only [k14, k12, q1, if_false] at hwr
        exact fin _ (Sum.inr v0) hdef2 hFK h7K (fun w' hw' => by cases hw') (fun V _ => ⟨_, hwr, hFK, h7K⟩)
/-- the rule at ru computes V -/
def RuR (M : MM) (ru : Nat) (V : GV) : Prop := (ru = 7 ∨ ru = 8) ∧ ∃ (k : Nat) (T : Nat → Int), M 1 19 = (k : Int) ∧ k ≤ 40 ∧ (∀ j, j < k → M ru j % 256 = T j ∧ (-128 ≤ M ru j ∧ M ru j < 128)) ∧ gRead T k = Sum.inr V
theorem gRead_ln {ln : Nat} {V : GV} (h : gRead T ln = Sum.inr V) : ln ≤ 40 := by
  by_cases h0 : 0 < ln
  · have := ((yTop (T := T) h0 (fun _ => false) rfl 0).2 V h).1
    omega
  · omega
theorem r_rule {ln : Nat} (hru : ru = 7 ∨ ru = 8) (hX : TxR M T ln) : Cw 182 175 [pR 1] LR (PR rd ru) M (fun v P' M' => P' = PR 4 ru ∧ Fr [7, 10, 12, 13, 14, 15, 19, 20] [ru] M M' ∧ M' 1 7 = 0 ∧ M' 1 10 = 0 ∧ (∀ w, gRead T ln = Sum.inl w → v = some (pI (-1 - (w : Int))) ∧ M' 1 19 = M 1 19 ∧ M' ru = M ru) ∧ (∀ V, gRead T ln = Sum.inr V → v = some (pI 0) ∧ RuR M' ru V)) := by
  refine Cw_k [some (pR 1), none, none] (Nat.le_of_ble_eq_true rfl) rfl (fun d hd Q X hQ => ?_)
  have hX' : TxR (uM M 1 10 0) T ln := by
    obtain ⟨x1, x2, x3⟩ := hX
    refine ⟨by rw [uM_at, if_pos rfl, if_neg (by decide)]; exact x1, x2, fun j hj => ?_⟩
    rw [uM_ne (by decide)]; exact x3 j hj
  have e7 : uM M 1 10 0 1 7 = (ln : Int) := hX'.1
  obtain ⟨v, P', N, hE, rfl, h2, h3, h4, h5⟩ := r_readRule (rd := rd) (ru := ru) hX' d (by omega)
  have hru0 : ¬ ru = 0 := by omega
  have hru1 : ¬ ru = 1 := by omega
  have hru4 : ¬ ru = 4 := by omega
  have hF : Fr [7, 10, 12, 13, 14, 15, 19, 20] [ru] M N := Fr_trans (Fr_1 Fr_refl (by simp)) (Fr_mono h2 (by simp) (by simp))
  have n10 : N 1 10 = 0 := by rw [h2.1 10 (by decide)]; simp [uM_at]
  simp only [s_175_0, s_175_1, s_175_2, s_175_5, s_175_6, s_175_9, s_175_10, s_175_14, s_175_17, s_175_18, s_175_19, s_175_22, s_175_23, s_175_24, s_175_25, s_175_27, s_175_28, s_175_31, s_175_32, s_175_35, s_175_36, s_175_37, s_175_40, s_175_41, s_175_42, s_175_43, s_175_46, s_175_49, s_175_50, s_175_51, s_175_54, s_175_55, true_and, and_true, sc0, sc1, sc2, sc3, sc4, Option.toList, List.cons_append, List.nil_append, clr, ne_eq, not_false_eq_true, not_true_eq_false, false_and, and_false, true_or, or_true, or_false, false_or, forall_const, Nat.reduceEqDiff, List.length_nil, List.length_cons, Nat.zero_le, Nat.reduceAdd, Nat.reduceLeDiff, false_implies, true_implies, Int.reduceEq, Int.reduceNe, Int.reduceLT, Int.reduceLE, Int.reduceNeg, Int.reduceToNat, Int.toNat_natCast, Nat.reduceLT, and_self, Decidable.not_not, kR_1, kR_2, kR_3, kR_4, kR_5, kR_6, kR_7, kR_8, kR_9, kR_10, kR_11, kR_12, kR_13, kR_14, kR_15, kR_16, kR_17, kR_18, kR_19, kR_20, kR_21, kR_22, kR_23, pR_0, pR_5, pR_6, pR_8, pR_11, pR_16, pR_17, pR_18, pR_21, pR_22, pR_23, pR_24, pR_26, pR_28, pR_29, pR_30, pR_33, pR_34, pR_35, pR_38, pR_41, pR_42, pR_43, e7]
  cases hg : gRead T ln with
  | inl w =>
    have hw40 := gRead_le hg
    obtain ⟨rfl, h6⟩ := h4 w hg
    refine s_175_11 (Nat.le_of_ble_eq_true rfl) kR_1 hE ?_
    have e2 : EqW (w32 (-1 - (w : Int))) (-1 - (w : Int)) := EqW_i <| w32s (by omega)
    simp only [s_175_0, s_175_1, s_175_2, s_175_5, s_175_6, s_175_9, s_175_10, s_175_14, s_175_17, s_175_18, s_175_19, s_175_22, s_175_23, s_175_24, s_175_25, s_175_27, s_175_28, s_175_31, s_175_32, s_175_35, s_175_36, s_175_37, s_175_40, s_175_41, s_175_42, s_175_43, s_175_46, s_175_49, s_175_50, s_175_51, s_175_54, s_175_55, true_and, and_true, sc0, sc1, sc2, sc3, sc4, Option.toList, List.cons_append, List.nil_append, clr, ne_eq, not_false_eq_true, not_true_eq_false, false_and, and_false, true_or, or_true, or_false, false_or, forall_const, Nat.reduceEqDiff, List.length_nil, List.length_cons, Nat.zero_le, Nat.reduceAdd, Nat.reduceLeDiff, false_implies, true_implies, Int.reduceEq, Int.reduceNe, Int.reduceLT, Int.reduceLE, Int.reduceNeg, Int.reduceToNat, Int.toNat_natCast, Nat.reduceLT, and_self, Decidable.not_not, kR_1, kR_2, kR_3, kR_4, kR_5, kR_6, kR_7, kR_8, kR_9, kR_10, kR_11, kR_12, kR_13, kR_14, kR_15, kR_16, kR_17, kR_18, kR_19, kR_20, kR_21, kR_22, kR_23, pR_0, pR_5, pR_6, pR_8, pR_11, pR_16, pR_17, pR_18, pR_21, pR_22, pR_23, pR_24, pR_26, pR_28, pR_29, pR_30, pR_33, pR_34, pR_35, pR_38, pR_41, pR_42, pR_43, h6, (EqW_o e2)]
    refine hQ _ _ _ ⟨rfl, hF, h3, n10, fun w' hw' => ?_, fun V hV => ?_⟩
    · rw [hg] at hw'
      obtain rfl := Sum.inl.inj hw'
      refine ⟨rfl, ?_, ?_⟩
      · rw [h2.1 19 (by decide)]; simp [uM_at]
      · rw [h2.2 ru hru1 (by simp), uM_ne hru1]
    · rw [hg] at hV; cases hV
  | inr V =>
    obtain rfl := h5 V hg
    have hl40 := gRead_ln hg
    refine s_175_11 (Nat.le_of_ble_eq_true rfl) kR_1 hE ?_
    simp only [s_175_0, s_175_1, s_175_2, s_175_5, s_175_6, s_175_9, s_175_10, s_175_14, s_175_17, s_175_18, s_175_19, s_175_22, s_175_23, s_175_24, s_175_25, s_175_27, s_175_28, s_175_31, s_175_32, s_175_35, s_175_36, s_175_37, s_175_40, s_175_41, s_175_42, s_175_43, s_175_46, s_175_49, s_175_50, s_175_51, s_175_54, s_175_55, true_and, and_true, sc0, sc1, sc2, sc3, sc4, Option.toList, List.cons_append, List.nil_append, clr, ne_eq, not_false_eq_true, not_true_eq_false, false_and, and_false, true_or, or_true, or_false, false_or, forall_const, Nat.reduceEqDiff, List.length_nil, List.length_cons, Nat.zero_le, Nat.reduceAdd, Nat.reduceLeDiff, false_implies, true_implies, Int.reduceEq, Int.reduceNe, Int.reduceLT, Int.reduceLE, Int.reduceNeg, Int.reduceToNat, Int.toNat_natCast, Nat.reduceLT, and_self, Decidable.not_not, kR_1, kR_2, kR_3, kR_4, kR_5, kR_6, kR_7, kR_8, kR_9, kR_10, kR_11, kR_12, kR_13, kR_14, kR_15, kR_16, kR_17, kR_18, kR_19, kR_20, kR_21, kR_22, kR_23, pR_0, pR_5, pR_6, pR_8, pR_11, pR_16, pR_17, pR_18, pR_21, pR_22, pR_23, pR_24, pR_26, pR_28, pR_29, pR_30, pR_33, pR_34, pR_35, pR_38, pR_41, pR_42, pR_43]
    have kru := rd_k (rd := ru) (Or.inr hru)
    rw [if_neg hru4] at kru
    refine lup (α := MM) (I := fun i K => K = cM N 4 ru 0 0 i) (G := fun i K => wpB (Ev d) 175 Q X 26 [some (pR 1), some (pI (ln : Int)), some (pI (i : Int))] [] (kz LR) (PR 4 ru) K) ln (fun K hK => ?_) (fun i K hi hK ih => ?_) 0 N (Nat.zero_le _) cM_0.symm
    · subst hK
      rw [s_175_26]
      simp only [s_175_0, s_175_1, s_175_2, s_175_5, s_175_6, s_175_9, s_175_10, s_175_14, s_175_17, s_175_18, s_175_19, s_175_22, s_175_23, s_175_24, s_175_25, s_175_27, s_175_28, s_175_31, s_175_32, s_175_35, s_175_36, s_175_37, s_175_40, s_175_41, s_175_42, s_175_43, s_175_46, s_175_49, s_175_50, s_175_51, s_175_54, s_175_55, true_and, and_true, sc0, sc1, sc2, sc3, sc4, Option.toList, List.cons_append, List.nil_append, clr, ne_eq, not_false_eq_true, not_true_eq_false, false_and, and_false, true_or, or_true, or_false, false_or, forall_const, Nat.reduceEqDiff, List.length_nil, List.length_cons, Nat.zero_le, Nat.reduceAdd, Nat.reduceLeDiff, false_implies, true_implies, Int.reduceEq, Int.reduceNe, Int.reduceLT, Int.reduceLE, Int.reduceNeg, Int.reduceToNat, Int.toNat_natCast, Nat.reduceLT, and_self, Decidable.not_not, kR_1, kR_2, kR_3, kR_4, kR_5, kR_6, kR_7, kR_8, kR_9, kR_10, kR_11, kR_12, kR_13, kR_14, kR_15, kR_16, kR_17, kR_18, kR_19, kR_20, kR_21, kR_22, kR_23, pR_0, pR_5, pR_6, pR_8, pR_11, pR_16, pR_17, pR_18, pR_21, pR_22, pR_23, pR_24, pR_26, pR_28, pR_29, pR_30, pR_33, pR_34, pR_35, pR_38, pR_41, pR_42, pR_43, Int.le_refl]
      refine hQ _ _ _ ⟨rfl, Fr_1 (Fr_c hF hru1 (by simp)) (by simp), ?_, ?_, fun w hw => ?_, fun V' hV' => ?_⟩
      · rw [uM_at, if_pos rfl, if_neg (by decide), cM_ne (by omega)]; exact h3
      · rw [uM_at, if_pos rfl, if_neg (by decide), cM_ne (by omega)]; exact n10
      · rw [hg] at hw; cases hw
      · rw [hg] at hV'
        obtain rfl := Sum.inr.inj hV'
        refine ⟨rfl, hru, ln, T, by simp [uM_at], hl40, fun j hj => ?_, hg⟩
        rw [uM_ne hru1, cM_at, if_pos rfl, if_pos ⟨Nat.zero_le _, by omega⟩, Nat.zero_add, Nat.sub_zero, h2.2 4 (by decide) (by simp), uM_ne (by decide)]
        exact hX.2.2 j (by omega)
    · subst hK
      have e0 : ¬ (ln : Int) ≤ (i : Int) := by omega
      have b0 : (0 : Int) ≤ (i : Int) := by omega
      have b1 : (i : Int) < ((80 : Nat) : Int) := by omega
      have b2 : (i : Int) < ((40 : Nat) : Int) := by omega
      have en := EqW_i (w32n (show i < 1000000 by omega))
      have e4 : cM N 4 ru 0 0 i 4 = N 4 := cM_ne (fun e => hru4 e.symm)
      have hb := (hX.2.2 i (by omega)).2
      have eN4 : N 4 = M 4 := by rw [h2.2 4 (by decide) (by simp), uM_ne (by decide)]
      have hb1 : -128 ≤ N 4 i := by rw [eN4]; exact hb.1
      have hb2 : N 4 i < 128 := by rw [eN4]; exact hb.2
      rw [s_175_26]
      simp only [s_175_0, s_175_1, s_175_2, s_175_5, s_175_6, s_175_9, s_175_10, s_175_14, s_175_17, s_175_18, s_175_19, s_175_22, s_175_23, s_175_24, s_175_25, s_175_27, s_175_28, s_175_31, s_175_32, s_175_35, s_175_36, s_175_37, s_175_40, s_175_41, s_175_42, s_175_43, s_175_46, s_175_49, s_175_50, s_175_51, s_175_54, s_175_55, true_and, and_true, sc0, sc1, sc2, sc3, sc4, Option.toList, List.cons_append, List.nil_append, clr, ne_eq, not_false_eq_true, not_true_eq_false, false_and, and_false, true_or, or_true, or_false, false_or, forall_const, Nat.reduceEqDiff, List.length_nil, List.length_cons, Nat.zero_le, Nat.reduceAdd, Nat.reduceLeDiff, false_implies, true_implies, Int.reduceEq, Int.reduceNe, Int.reduceLT, Int.reduceLE, Int.reduceNeg, Int.reduceToNat, Int.toNat_natCast, Nat.reduceLT, and_self, Decidable.not_not, kR_1, kR_2, kR_3, kR_4, kR_5, kR_6, kR_7, kR_8, kR_9, kR_10, kR_11, kR_12, kR_13, kR_14, kR_15, kR_16, kR_17, kR_18, kR_19, kR_20, kR_21, kR_22, kR_23, pR_0, pR_5, pR_6, pR_8, pR_11, pR_16, pR_17, pR_18, pR_21, pR_22, pR_23, pR_24, pR_26, pR_28, pR_29, pR_30, pR_33, pR_34, pR_35, pR_38, pR_41, pR_42, pR_43, e0, b0, b1, b2, hru0, kru, e4, hb1, hb2, (EqW_o en)]
      refine ih _ ?_
      have hc := cM_s1 (M := N) (x := 4) (y := ru) (sp := 0) (i := i) (fun e => hru4 e.symm)
      rw [Nat.zero_add] at hc
      exact hc
end
