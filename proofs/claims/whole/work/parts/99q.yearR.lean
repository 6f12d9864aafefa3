/-! year: the reference reads the acts -/
section
variable {M : MM} {rd ru L r c n : Nat} {T : Nat → Int}
theorem r_oneS {p : Nat} {fi ma : Int} (h : Rdg M rd T L) (hp : M 1 15 = -1 → M 1 14 = (p : Int)) (hfi : 0 ≤ fi ∧ fi < 100) (hma : 0 ≤ ma ∧ fi + ma ≤ 128) : Cw 3 164 [pR 1, pI fi, pI ma] LR (PR rd ru) M (fun x P' M' => P' = PR rd ru ∧ Fr [14, 15] [] M M' ∧ ∃ v, x = some (pI v) ∧ (M 1 15 ≠ -1 → M' 1 15 = M 1 15) ∧ (M 1 15 = -1 → (p < L ∧ fi ≤ T p ∧ T p < fi + ma) → v = T p - fi ∧ M' 1 15 = -1 ∧ M' 1 14 = ((p + 1 : Nat) : Int)) ∧ (M 1 15 = -1 → ¬ (p < L ∧ fi ≤ T p ∧ T p < fi + ma) → M' 1 15 = (p : Int))) := by
  by_cases hw : M 1 15 = -1
  case neg =>
    refine Cw_imp (Cw_up (Ct_w (r_oneOf_bad (rd := rd) (ru := ru) (fi := fi) (ma := ma) hw)) (by decide)) (fun x P' M' hx => ?_)
    obtain ⟨rfl, rfl, rfl⟩ := hx
    exact ⟨rfl, Fr_refl, 0, rfl, fun _ => rfl, fun w => absurd w hw, fun w => absurd w hw⟩
  have hp' := hp hw
  by_cases c1 : p < L ∧ fi ≤ T p ∧ T p < fi + ma
  · refine Cw_imp (Ct_w (r_oneOf (ru := ru) h hp' hw c1.1 hfi hma ((hr_in hfi.1).mpr c1))) (fun x P' M' hx => ?_)
    obtain ⟨rfl, rfl, rfl⟩ := hx
    refine ⟨rfl, Fr_1 Fr_refl (by decide), _, rfl, fun w => absurd hw w, fun _ _ => ⟨?_, ?_, ?_⟩, fun _ w => absurd c1 w⟩
    · rw [hr_at c1.1]
    · simp [uM_at, hw]
    · simp [uM_at]
  · refine Cw_imp (Ct_w (r_oneOf_no (ru := ru) h hp' hw hfi hma (fun w => c1 ((hr_in hfi.1).mp w)))) (fun x P' M' hx => ?_)
    obtain ⟨rfl, rfl, rfl⟩ := hx
    exact ⟨rfl, Fr_1 Fr_refl (by decide), _, rfl, fun w => absurd hw w, fun _ w => absurd w c1, fun _ _ => by simp [uM_at]⟩
theorem Rdg_fr {M' : MM} {S S' : List Nat} (h : Rdg M rd T L) (hf : Fr S S' M M') (hS : 12 ∉ S ∧ 13 ∉ S) (hS' : 4 ∉ S' ∧ 7 ∉ S' ∧ 8 ∉ S') : Rdg M' rd T L := by
  obtain ⟨h0, ln, tp, a1, a2, a3, a4, a5, a6, a7⟩ := h
  refine ⟨h0, ln, tp, by rw [hf.1 12 hS.1]; exact a1, by rw [hf.1 13 hS.2]; exact a2, a3, a4, a5, a6, fun j hj => ?_⟩
  have : M' rd = M rd := by
    rcases h0 with rfl | rfl | rfl
    · exact hf.2 4 (by decide) hS'.1
    · exact hf.2 7 (by decide) hS'.2.1
    · exact hf.2 8 (by decide) hS'.2.2
  rw [this]; exact a7 j hj
abbrev dgD (T : Nat → Int) (L p : Nat) : Prop := p < L ∧ 48 ≤ T p ∧ T p ≤ 57
theorem r_readAny {p : Nat} (h : Rdg M rd T L) (hp : M 1 15 = -1 → M 1 14 = (p : Int)) (hD : RD M r c n) : Cw 4 216 [pR 1] LR (PR rd ru) M (fun x P' M' => P' = PR rd ru ∧ Fr [14, 15] [] M M' ∧ ∃ v, x = some (pI v) ∧ (M 1 15 ≠ -1 → M' 1 15 = M 1 15) ∧ (M 1 15 = -1 → dgD T L p → dgD T L (p + 1) → v = fdA T r c p ∧ M' 1 15 = -1 ∧ M' 1 14 = ((p + 2 : Nat) : Int)) ∧ (M 1 15 = -1 → ¬ dgD T L p → M' 1 15 = (p : Int)) ∧ (M 1 15 = -1 → dgD T L p → ¬ dgD T L (p + 1) → M' 1 15 = ((p + 1 : Nat) : Int))) := by
  refine Cw_k [some (pR 1), none, none] (Nat.le_of_ble_eq_true rfl) rfl (fun d hd Q X hQ => ?_)
  obtain ⟨d1, d2, d3, r1, r2, c1, c2, n6⟩ := hD
  obtain ⟨x1, P1, M1, e1, rfl, f1, v1, rfl, a1, a2, a3⟩ := r_oneS (ru := ru) (fi := 48) (ma := 10) h hp (by decide) (by decide) d (by omega)
  have a2' : M 1 15 = -1 → dgD T L p → v1 = T p - 48 ∧ M1 1 15 = -1 ∧ M1 1 14 = ((p + 1 : Nat) : Int) := fun w q => a2 w ⟨q.1, q.2.1, by have := q.2.2; omega⟩
  have a3' : M 1 15 = -1 → ¬ dgD T L p → M1 1 15 = (p : Int) := fun w q => a3 w (fun q2 => q ⟨q2.1, q2.2.1, by have := q2.2.2; omega⟩)
  have hp1 : M1 1 15 = -1 → M1 1 14 = ((p + 1 : Nat) : Int) := fun w => by
    by_cases q1 : M 1 15 = -1
    · by_cases q2 : dgD T L p
      · exact (a2' q1 q2).2.2
      · have := a3' q1 q2; omega
    · have := a1 q1; exact absurd (this ▸ w) q1
  obtain ⟨x2, P2, M2, e2, rfl, f2, v2, rfl, b1, b2, b3⟩ := r_oneS (ru := ru) (fi := 48) (ma := 10) (Rdg_fr h f1 (by decide) (by decide)) hp1 (by decide) (by decide) d (by omega)
  have b2' : M1 1 15 = -1 → dgD T L (p + 1) → v2 = T (p + 1) - 48 ∧ M2 1 15 = -1 ∧ M2 1 14 = ((p + 1 + 1 : Nat) : Int) := fun w q => b2 w ⟨q.1, q.2.1, by have := q.2.2; omega⟩
  have b3' : M1 1 15 = -1 → ¬ dgD T L (p + 1) → M2 1 15 = ((p + 1 : Nat) : Int) := fun w q => b3 w (fun q2 => q ⟨q2.1, q2.2.1, by have := q2.2.2; omega⟩)
  have fin : ∀ v, (M 1 15 = -1 → dgD T L p → dgD T L (p + 1) → v = fdA T r c p) → Q (some (pI v)) (kz LR) (PR rd ru) M2 := fun v hv => by
    refine hQ _ _ _ ⟨rfl, Fr_trans f1 f2, v, rfl, fun w => ?_, fun w q1 q2 => ⟨hv w q1 q2, ?_⟩, fun w q1 => ?_, fun w q1 q2 => ?_⟩
    · have := a1 w
      rw [b1 (by rw [this]; exact w), this]
    · exact (b2' (a2' w q1).2.1 q2).2
    · have := a3' w q1
      rw [b1 (by omega), this]
    · exact b3' (a2' w q1).2.1 q2
  have k1 : M2 1 1 = (r : Int) := by rw [f2.1 1 (by decide), f1.1 1 (by decide)]; exact d1
  have k2 : M2 1 2 = (c : Int) := by rw [f2.1 2 (by decide), f1.1 2 (by decide)]; exact d2
  simp only [s_216_0, s_216_1, s_216_3, s_216_8, s_216_9, s_216_10, s_216_12, s_216_17, s_216_18, s_216_19, s_216_20, s_216_23, s_216_26, s_216_27, s_216_28, s_216_31, s_216_34, s_216_35, s_216_38, s_216_39, s_216_40, s_216_41, s_216_42, s_216_45, s_216_46, true_and, and_true, sc0, sc1, sc2, sc3, sc4, Option.toList, List.cons_append, List.nil_append, clr, ne_eq, not_false_eq_true, not_true_eq_false, false_and, and_false, true_or, or_true, or_false, false_or, forall_const, Nat.reduceEqDiff, List.length_nil, List.length_cons, Nat.zero_le, Nat.reduceAdd, Nat.reduceLeDiff, false_implies, true_implies, Int.reduceEq, Int.reduceNe, Int.reduceLT, Int.reduceLE, Int.reduceNeg, Int.reduceToNat, Int.toNat_natCast, Nat.reduceLT, and_self, Decidable.not_not, kR_1, kR_2, kR_3, kR_4, kR_5, kR_6, kR_7, kR_8, kR_9, kR_10, kR_11, kR_12, kR_13, kR_14, kR_15, kR_16, kR_17, kR_18, kR_19, kR_20, kR_21, kR_22, kR_23, pR_0, pR_5, pR_6, pR_8, pR_11, pR_16, pR_17, pR_18, pR_21, pR_22, pR_23, pR_24, pR_26, pR_28, pR_29, pR_30, pR_33, pR_34, pR_35, pR_38, pR_41, pR_42, pR_43]
  refine s_216_5 (Nat.le_of_ble_eq_true rfl) kR_1 e1 ?_
  simp only [s_216_0, s_216_1, s_216_3, s_216_8, s_216_9, s_216_10, s_216_12, s_216_17, s_216_18, s_216_19, s_216_20, s_216_23, s_216_26, s_216_27, s_216_28, s_216_31, s_216_34, s_216_35, s_216_38, s_216_39, s_216_40, s_216_41, s_216_42, s_216_45, s_216_46, true_and, and_true, sc0, sc1, sc2, sc3, sc4, Option.toList, List.cons_append, List.nil_append, clr, ne_eq, not_false_eq_true, not_true_eq_false, false_and, and_false, true_or, or_true, or_false, false_or, forall_const, Nat.reduceEqDiff, List.length_nil, List.length_cons, Nat.zero_le, Nat.reduceAdd, Nat.reduceLeDiff, false_implies, true_implies, Int.reduceEq, Int.reduceNe, Int.reduceLT, Int.reduceLE, Int.reduceNeg, Int.reduceToNat, Int.toNat_natCast, Nat.reduceLT, and_self, Decidable.not_not, kR_1, kR_2, kR_3, kR_4, kR_5, kR_6, kR_7, kR_8, kR_9, kR_10, kR_11, kR_12, kR_13, kR_14, kR_15, kR_16, kR_17, kR_18, kR_19, kR_20, kR_21, kR_22, kR_23, pR_0, pR_5, pR_6, pR_8, pR_11, pR_16, pR_17, pR_18, pR_21, pR_22, pR_23, pR_24, pR_26, pR_28, pR_29, pR_30, pR_33, pR_34, pR_35, pR_38, pR_41, pR_42, pR_43]
  refine s_216_14 (Nat.le_of_ble_eq_true rfl) kR_1 e2 ?_
  by_cases g1 : (r : Int) ≤ v1
  · simp only [s_216_0, s_216_1, s_216_3, s_216_8, s_216_9, s_216_10, s_216_12, s_216_17, s_216_18, s_216_19, s_216_20, s_216_23, s_216_26, s_216_27, s_216_28, s_216_31, s_216_34, s_216_35, s_216_38, s_216_39, s_216_40, s_216_41, s_216_42, s_216_45, s_216_46, true_and, and_true, sc0, sc1, sc2, sc3, sc4, Option.toList, List.cons_append, List.nil_append, clr, ne_eq, not_false_eq_true, not_true_eq_false, false_and, and_false, true_or, or_true, or_false, false_or, forall_const, Nat.reduceEqDiff, List.length_nil, List.length_cons, Nat.zero_le, Nat.reduceAdd, Nat.reduceLeDiff, false_implies, true_implies, Int.reduceEq, Int.reduceNe, Int.reduceLT, Int.reduceLE, Int.reduceNeg, Int.reduceToNat, Int.toNat_natCast, Nat.reduceLT, and_self, Decidable.not_not, kR_1, kR_2, kR_3, kR_4, kR_5, kR_6, kR_7, kR_8, kR_9, kR_10, kR_11, kR_12, kR_13, kR_14, kR_15, kR_16, kR_17, kR_18, kR_19, kR_20, kR_21, kR_22, kR_23, pR_0, pR_5, pR_6, pR_8, pR_11, pR_16, pR_17, pR_18, pR_21, pR_22, pR_23, pR_24, pR_26, pR_28, pR_29, pR_30, pR_33, pR_34, pR_35, pR_38, pR_41, pR_42, pR_43, k1, g1]
    refine fin _ (fun w q1 q2 => ?_)
    have y1 := (a2' w q1).1
    unfold fdA
    rw [if_neg (fun w => by have := w.1; omega)]
  by_cases g2 : (c : Int) ≤ v2
  · simp only [s_216_0, s_216_1, s_216_3, s_216_8, s_216_9, s_216_10, s_216_12, s_216_17, s_216_18, s_216_19, s_216_20, s_216_23, s_216_26, s_216_27, s_216_28, s_216_31, s_216_34, s_216_35, s_216_38, s_216_39, s_216_40, s_216_41, s_216_42, s_216_45, s_216_46, true_and, and_true, sc0, sc1, sc2, sc3, sc4, Option.toList, List.cons_append, List.nil_append, clr, ne_eq, not_false_eq_true, not_true_eq_false, false_and, and_false, true_or, or_true, or_false, false_or, forall_const, Nat.reduceEqDiff, List.length_nil, List.length_cons, Nat.zero_le, Nat.reduceAdd, Nat.reduceLeDiff, false_implies, true_implies, Int.reduceEq, Int.reduceNe, Int.reduceLT, Int.reduceLE, Int.reduceNeg, Int.reduceToNat, Int.toNat_natCast, Nat.reduceLT, and_self, Decidable.not_not, kR_1, kR_2, kR_3, kR_4, kR_5, kR_6, kR_7, kR_8, kR_9, kR_10, kR_11, kR_12, kR_13, kR_14, kR_15, kR_16, kR_17, kR_18, kR_19, kR_20, kR_21, kR_22, kR_23, pR_0, pR_5, pR_6, pR_8, pR_11, pR_16, pR_17, pR_18, pR_21, pR_22, pR_23, pR_24, pR_26, pR_28, pR_29, pR_30, pR_33, pR_34, pR_35, pR_38, pR_41, pR_42, pR_43, k1, k2, g1, g2]
    refine fin _ (fun w q1 q2 => ?_)
    have y1 := (a2' w q1).1
    have y2 := (b2' (a2' w q1).2.1 q2).1
    unfold fdA
    rw [if_neg (fun w => by have := w.2; omega)]
  · simp only [s_216_0, s_216_1, s_216_3, s_216_8, s_216_9, s_216_10, s_216_12, s_216_17, s_216_18, s_216_19, s_216_20, s_216_23, s_216_26, s_216_27, s_216_28, s_216_31, s_216_34, s_216_35, s_216_38, s_216_39, s_216_40, s_216_41, s_216_42, s_216_45, s_216_46, true_and, and_true, sc0, sc1, sc2, sc3, sc4, Option.toList, List.cons_append, List.nil_append, clr, ne_eq, not_false_eq_true, not_true_eq_false, false_and, and_false, true_or, or_true, or_false, false_or, forall_const, Nat.reduceEqDiff, List.length_nil, List.length_cons, Nat.zero_le, Nat.reduceAdd, Nat.reduceLeDiff, false_implies, true_implies, Int.reduceEq, Int.reduceNe, Int.reduceLT, Int.reduceLE, Int.reduceNeg, Int.reduceToNat, Int.toNat_natCast, Nat.reduceLT, and_self, Decidable.not_not, kR_1, kR_2, kR_3, kR_4, kR_5, kR_6, kR_7, kR_8, kR_9, kR_10, kR_11, kR_12, kR_13, kR_14, kR_15, kR_16, kR_17, kR_18, kR_19, kR_20, kR_21, kR_22, kR_23, pR_0, pR_5, pR_6, pR_8, pR_11, pR_16, pR_17, pR_18, pR_21, pR_22, pR_23, pR_24, pR_26, pR_28, pR_29, pR_30, pR_33, pR_34, pR_35, pR_38, pR_41, pR_42, pR_43, k1, k2, g1, g2]
    refine fin _ (fun w q1 q2 => ?_)
    have y1 := (a2' w q1).1
    have y2 := (b2' (a2' w q1).2.1 q2).1
    have z1 := q1.2.1
    have z2 := q2.2.1
    unfold fdA
    rw [if_pos (show T p - 48 < (r : Int) ∧ T (p + 1) - 48 < (c : Int) by omega), ← y1, ← y2]
    obtain ⟨x, hx⟩ : ∃ x : Nat, v1 = (x : Int) := ⟨v1.toNat, by omega⟩
    obtain ⟨y, hy⟩ : ∃ y : Nat, v2 = (y : Int) := ⟨v2.toNat, by omega⟩
    rw [hx, hy]
    have hm : c * x ≤ 6 * 6 := Nat.mul_le_mul c2 (by omega)
    rw [← Int.natCast_mul, w32s (x := ((c * x : Nat) : Int)) (by omega), w32s (by omega), ← Int.natCast_mul, Nat.mul_comm c x]
end
