/-! year: the reference reads an act -/
section
variable {M : MM} {rd ru L r c n : Nat} {T : Nat → Int}
theorem RD_fr3 {M' : MM} {S S' : List Nat} (h : RD M r c n) (hf : Fr S S' M M') (hS : 1 ∉ S ∧ 2 ∉ S ∧ 3 ∉ S) : RD M' r c n := by
  obtain ⟨d1, d2, d3, q⟩ := h
  exact ⟨by rw [hf.1 1 hS.1]; exact d1, by rw [hf.1 2 hS.2.1]; exact d2, by rw [hf.1 3 hS.2.2]; exact d3, q⟩
theorem aF_1 {p : Nat} (g : dgA (T p) = 1) : aF T L p = if plA T L (T p) p 1 then -1 else ((p + 1 : Nat) : Int) := by
  unfold aF; rw [if_neg (by omega), g]; rfl
theorem aF_2 {p : Nat} (g : dgA (T p) = 2) : aF T L p = if plA T L (T p) p 1 then (if plA T L (T p) p 2 then -1 else ((p + 2 : Nat) : Int)) else ((p + 1 : Nat) : Int) := by
  unfold aF; rw [if_neg (by omega), g]; rfl
theorem aF_3 {p : Nat} (g : dgA (T p) = 3) : aF T L p = if plA T L (T p) p 1 then (if plA T L (T p) p 2 then (if plA T L (T p) p 3 then -1 else ((p + 3 : Nat) : Int)) else ((p + 2 : Nat) : Int)) else ((p + 1 : Nat) : Int) := by
  unfold aF; rw [if_neg (by omega), g]; rfl
theorem pl_d {ch : Int} {p i : Nat} (h1 : loA ch i = 48) (h2 : hiA ch i = 57) : plA T L ch p i ↔ dgD T L (p + i) := by
  show (p + i < L ∧ loA ch i ≤ T (p + i) ∧ T (p + i) ≤ hiA ch i) ↔ _
  rw [h1, h2]
theorem r_readAct {p k : Nat} (h : Rdg M rd T L) (hp : M 1 14 = (p : Int)) (hw : M 1 15 = -1) (hpL : p ≤ L) (hL : L ≤ 60) (hD : RD M r c n) (hk : k + 2 < 240) : Cw 5 215 [pR 1, pI (k : Int)] LR (PR rd ru) M (fun x P' M' => P' = PR rd ru ∧ x = none ∧ Fr [14, 15] [17] M M' ∧ (∀ j, j < k → M' 17 j = M 17 j) ∧ (L ≤ p → M' 1 15 = (p : Int)) ∧ (p < L → 0 ≤ aF T L p → M' 1 15 = aF T L p) ∧ (p < L → ¬ 0 ≤ aF T L p → M' 1 15 = -1 ∧ M' 1 14 = ((p + 1 + dgA (T p) : Nat) : Int) ∧ M' 17 k = (acT T r c p).1 ∧ M' 17 (k + 1) = (acT T r c p).2.1 ∧ ((acT T r c p).1 ≠ 110 → (acT T r c p).1 ≠ 108 → M' 17 (k + 2) = (acT T r c p).2.2))) := by
  refine Cw_k [some (pR 1), some (pI (k : Int)), none] (Nat.le_of_ble_eq_true rfl) rfl (fun d hd Q X hQ => ?_)
  have hhere := r_here (ru := ru) h hp
  by_cases c0 : p < L ∧ 1 ≤ dgA (T p)
  case neg =>
    have hfa := r_fault (M := M) (rd := rd) (ru := ru) (p := (p : Int))
    rw [if_pos hw] at hfa
    have hne : ∀ x : Int, (x = 110 ∨ x = 108 ∨ x = 98 ∨ x = 103 ∨ x = 100) → ¬ hrF T L p = x := fun x hx w => by
      have := (hr_eq (by omega)).mp w
      refine c0 ⟨this.1, ?_⟩
      rw [this.2]
      rcases hx with e | e | e | e | e <;> subst e <;> decide
    have n1 := hne 110 (by simp)
    have n2 := hne 108 (by simp)
    have n3 := hne 98 (by simp)
    have n4 := hne 103 (by simp)
    have n5 := hne 100 (by simp)
    simp only [s_215_0, s_215_4, s_215_5, s_215_6, s_215_8, s_215_11, s_215_12, s_215_14, s_215_17, s_215_18, s_215_20, s_215_23, s_215_24, s_215_26, s_215_29, s_215_30, s_215_32, s_215_35, s_215_36, s_215_37, s_215_43, s_215_44, s_215_45I, s_215_45, s_215_46, s_215_49, s_215_50, s_215_51, s_215_54, s_215_55, s_215_58, s_215_59, s_215_60, s_215_61, s_215_62, s_215_65, s_215_66, s_215_67, s_215_68, s_215_69, s_215_71, s_215_74, s_215_75, s_215_77, s_215_80, s_215_84, s_215_87, s_215_88, s_215_90, s_215_95, s_215_96, s_215_97, s_215_99, s_215_102, s_215_103, s_215_106, s_215_107, s_215_108, s_215_109, s_215_110, s_215_112, s_215_116, s_215_117, s_215_118, s_215_120, s_215_123, s_215_124, s_215_127, s_215_128, s_215_129, s_215_130, s_215_131, s_215_133, s_215_137, s_215_138, s_215_139, s_215_140, s_215_141, s_215_143, s_215_146, s_215_147, s_215_150, s_215_151, s_215_152, s_215_153, s_215_157, s_215_158, true_and, and_true, sc0, sc1, sc2, sc3, sc4, Option.toList, List.cons_append, List.nil_append, clr, ne_eq, not_false_eq_true, not_true_eq_false, false_and, and_false, true_or, or_true, or_false, false_or, forall_const, Nat.reduceEqDiff, List.length_nil, List.length_cons, Nat.zero_le, Nat.reduceAdd, Nat.reduceLeDiff, false_implies, true_implies, Int.reduceEq, Int.reduceNe, Int.reduceLT, Int.reduceLE, Int.reduceNeg, Int.reduceToNat, Int.toNat_natCast, Nat.reduceLT, and_self, Decidable.not_not, kR_1, kR_2, kR_3, kR_4, kR_5, kR_6, kR_7, kR_8, kR_9, kR_10, kR_11, kR_12, kR_13, kR_14, kR_15, kR_16, kR_17, kR_18, kR_19, kR_20, kR_21, kR_22, kR_23, pR_0, pR_5, pR_6, pR_8, pR_11, pR_16, pR_17, pR_18, pR_21, pR_22, pR_23, pR_24, pR_26, pR_28, pR_29, pR_30, pR_33, pR_34, pR_35, pR_38, pR_41, pR_42, pR_43]
    refine s_215_1 (Nat.le_of_ble_eq_true rfl) kR_1 (hhere d (by omega)) ?_
    simp only [s_215_0, s_215_4, s_215_5, s_215_6, s_215_8, s_215_11, s_215_12, s_215_14, s_215_17, s_215_18, s_215_20, s_215_23, s_215_24, s_215_26, s_215_29, s_215_30, s_215_32, s_215_35, s_215_36, s_215_37, s_215_43, s_215_44, s_215_45I, s_215_45, s_215_46, s_215_49, s_215_50, s_215_51, s_215_54, s_215_55, s_215_58, s_215_59, s_215_60, s_215_61, s_215_62, s_215_65, s_215_66, s_215_67, s_215_68, s_215_69, s_215_71, s_215_74, s_215_75, s_215_77, s_215_80, s_215_84, s_215_87, s_215_88, s_215_90, s_215_95, s_215_96, s_215_97, s_215_99, s_215_102, s_215_103, s_215_106, s_215_107, s_215_108, s_215_109, s_215_110, s_215_112, s_215_116, s_215_117, s_215_118, s_215_120, s_215_123, s_215_124, s_215_127, s_215_128, s_215_129, s_215_130, s_215_131, s_215_133, s_215_137, s_215_138, s_215_139, s_215_140, s_215_141, s_215_143, s_215_146, s_215_147, s_215_150, s_215_151, s_215_152, s_215_153, s_215_157, s_215_158, true_and, and_true, sc0, sc1, sc2, sc3, sc4, Option.toList, List.cons_append, List.nil_append, clr, ne_eq, not_false_eq_true, not_true_eq_false, false_and, and_false, true_or, or_true, or_false, false_or, forall_const, Nat.reduceEqDiff, List.length_nil, List.length_cons, Nat.zero_le, Nat.reduceAdd, Nat.reduceLeDiff, false_implies, true_implies, Int.reduceEq, Int.reduceNe, Int.reduceLT, Int.reduceLE, Int.reduceNeg, Int.reduceToNat, Int.toNat_natCast, Nat.reduceLT, and_self, Decidable.not_not, kR_1, kR_2, kR_3, kR_4, kR_5, kR_6, kR_7, kR_8, kR_9, kR_10, kR_11, kR_12, kR_13, kR_14, kR_15, kR_16, kR_17, kR_18, kR_19, kR_20, kR_21, kR_22, kR_23, pR_0, pR_5, pR_6, pR_8, pR_11, pR_16, pR_17, pR_18, pR_21, pR_22, pR_23, pR_24, pR_26, pR_28, pR_29, pR_30, pR_33, pR_34, pR_35, pR_38, pR_41, pR_42, pR_43, n1, n2, n3, n4, n5, hp]
    refine s_215_40 (Nat.le_of_ble_eq_true rfl) kR_1 (hfa d (by omega)) ?_
    simp only [s_215_0, s_215_4, s_215_5, s_215_6, s_215_8, s_215_11, s_215_12, s_215_14, s_215_17, s_215_18, s_215_20, s_215_23, s_215_24, s_215_26, s_215_29, s_215_30, s_215_32, s_215_35, s_215_36, s_215_37, s_215_43, s_215_44, s_215_45I, s_215_45, s_215_46, s_215_49, s_215_50, s_215_51, s_215_54, s_215_55, s_215_58, s_215_59, s_215_60, s_215_61, s_215_62, s_215_65, s_215_66, s_215_67, s_215_68, s_215_69, s_215_71, s_215_74, s_215_75, s_215_77, s_215_80, s_215_84, s_215_87, s_215_88, s_215_90, s_215_95, s_215_96, s_215_97, s_215_99, s_215_102, s_215_103, s_215_106, s_215_107, s_215_108, s_215_109, s_215_110, s_215_112, s_215_116, s_215_117, s_215_118, s_215_120, s_215_123, s_215_124, s_215_127, s_215_128, s_215_129, s_215_130, s_215_131, s_215_133, s_215_137, s_215_138, s_215_139, s_215_140, s_215_141, s_215_143, s_215_146, s_215_147, s_215_150, s_215_151, s_215_152, s_215_153, s_215_157, s_215_158, true_and, and_true, sc0, sc1, sc2, sc3, sc4, Option.toList, List.cons_append, List.nil_append, clr, ne_eq, not_false_eq_true, not_true_eq_false, false_and, and_false, true_or, or_true, or_false, false_or, forall_const, Nat.reduceEqDiff, List.length_nil, List.length_cons, Nat.zero_le, Nat.reduceAdd, Nat.reduceLeDiff, false_implies, true_implies, Int.reduceEq, Int.reduceNe, Int.reduceLT, Int.reduceLE, Int.reduceNeg, Int.reduceToNat, Int.toNat_natCast, Nat.reduceLT, and_self, Decidable.not_not, kR_1, kR_2, kR_3, kR_4, kR_5, kR_6, kR_7, kR_8, kR_9, kR_10, kR_11, kR_12, kR_13, kR_14, kR_15, kR_16, kR_17, kR_18, kR_19, kR_20, kR_21, kR_22, kR_23, pR_0, pR_5, pR_6, pR_8, pR_11, pR_16, pR_17, pR_18, pR_21, pR_22, pR_23, pR_24, pR_26, pR_28, pR_29, pR_30, pR_33, pR_34, pR_35, pR_38, pR_41, pR_42, pR_43]
    refine hQ _ _ _ ⟨rfl, rfl, Fr_1 Fr_refl (by decide), fun j _ => by rw [uM_ne (by decide)], fun _ => by simp [uM_at], fun w1 w2 => ?_, fun w1 w2 => ?_⟩
    · have : dgA (T p) = 0 := by
        apply Classical.byContradiction
        intro q
        exact c0 ⟨w1, by omega⟩
      unfold aF
      rw [if_pos this]
      simp [uM_at]
    · exact absurd ⟨w1, (aF_ok w2).1⟩ c0
  obtain ⟨cl, cg⟩ := c0
  have hh : hrF T L p = T p := hr_at cl
  rw [hh] at hhere
  obtain ⟨M1, hM1⟩ : ∃ J, J = uM (uM M 1 14 ((p + 1 : Nat) : Int)) 17 k (T p) := ⟨_, rfl⟩
  have fM1 : Fr [14, 15] [17] M M1 := by rw [hM1]; exact Fr_o (Fr_1 Fr_refl (by decide)) (by decide) (by decide)
  have m15 : M1 1 15 = -1 := by rw [hM1]; simp [uM_at, hw]
  have m14 : M1 1 15 = -1 → M1 1 14 = ((p + 1 : Nat) : Int) := fun _ => by rw [hM1]; simp [uM_at]
  have m17 : M1 17 k = T p := by rw [hM1]; simp [uM_at]
  have o17 : ∀ j, j < k → M1 17 j = M 17 j := fun j hj => by rw [hM1, uM_at, if_pos rfl, if_neg (by omega), uM_ne (by decide)]
  have hR1 := Rdg_fr h fM1 (by decide) (by decide)
  have hD1 : RD M1 r c n := RD_fr3 hD fM1 (by decide)
  have bk0 : (0 : Int) ≤ (k : Int) ∧ (k : Int) < ((240 : Nat) : Int) := by omega
  have bk1 : (0 : Int) ≤ ((k + 1 : Nat) : Int) ∧ ((k + 1 : Nat) : Int) < ((240 : Nat) : Int) := by omega
  have bk2 : (0 : Int) ≤ ((k + 2 : Nat) : Int) ∧ ((k + 2 : Nat) : Int) < ((240 : Nat) : Int) := by omega
  have ek1 := EqW_i (show w32 ((k : Int) + 1) = ((k + 1 : Nat) : Int) from w32n (by omega))
  have ek2 := EqW_i (show w32 ((k : Int) + 2) = ((k + 2 : Nat) : Int) by rw [w32s (by omega)]; rfl)
  have ep := EqW_i (show w32 ((p : Int) + 1) = ((p + 1 : Nat) : Int) from w32n (by omega))
  have bad : ∀ (K : MM) (w : Nat), Fr [14, 15] [17] M K → (∀ j, j < k → K 17 j = M 17 j) → aF T L p = (w : Int) → K 1 15 = (w : Int) → Q none (kz LR) (PR rd ru) K := fun K w k1 k2 k3 k4 => hQ _ _ _ ⟨rfl, rfl, k1, k2, fun q => absurd cl (by omega), fun _ _ => by rw [k3, k4], fun _ q => absurd q (by omega)⟩
  have good : ∀ (K : MM), Fr [14, 15] [17] M K → (∀ j, j < k → K 17 j = M 17 j) → aF T L p = -1 → K 1 15 = -1 → K 1 14 = ((p + 1 + dgA (T p) : Nat) : Int) → K 17 k = (acT T r c p).1 → K 17 (k + 1) = (acT T r c p).2.1 → ((acT T r c p).1 ≠ 110 → (acT T r c p).1 ≠ 108 → K 17 (k + 2) = (acT T r c p).2.2) → Q none (kz LR) (PR rd ru) K := fun K k1 k2 k3 k4 k5 k6 k7 k8 => hQ _ _ _ ⟨rfl, rfl, k1, k2, fun q => absurd cl (by omega), fun _ q => absurd q (by rw [k3]; decide), fun _ _ => ⟨k4, k5, k6, k7, k8⟩⟩
  simp only [s_215_0, s_215_4, s_215_5, s_215_6, s_215_8, s_215_11, s_215_12, s_215_14, s_215_17, s_215_18, s_215_20, s_215_23, s_215_24, s_215_26, s_215_29, s_215_30, s_215_32, s_215_35, s_215_36, s_215_37, s_215_43, s_215_44, s_215_45I, s_215_45, s_215_46, s_215_49, s_215_50, s_215_51, s_215_54, s_215_55, s_215_58, s_215_59, s_215_60, s_215_61, s_215_62, s_215_65, s_215_66, s_215_67, s_215_68, s_215_69, s_215_71, s_215_74, s_215_75, s_215_77, s_215_80, s_215_84, s_215_87, s_215_88, s_215_90, s_215_95, s_215_96, s_215_97, s_215_99, s_215_102, s_215_103, s_215_106, s_215_107, s_215_108, s_215_109, s_215_110, s_215_112, s_215_116, s_215_117, s_215_118, s_215_120, s_215_123, s_215_124, s_215_127, s_215_128, s_215_129, s_215_130, s_215_131, s_215_133, s_215_137, s_215_138, s_215_139, s_215_140, s_215_141, s_215_143, s_215_146, s_215_147, s_215_150, s_215_151, s_215_152, s_215_153, s_215_157, s_215_158, true_and, and_true, sc0, sc1, sc2, sc3, sc4, Option.toList, List.cons_append, List.nil_append, clr, ne_eq, not_false_eq_true, not_true_eq_false, false_and, and_false, true_or, or_true, or_false, false_or, forall_const, Nat.reduceEqDiff, List.length_nil, List.length_cons, Nat.zero_le, Nat.reduceAdd, Nat.reduceLeDiff, false_implies, true_implies, Int.reduceEq, Int.reduceNe, Int.reduceLT, Int.reduceLE, Int.reduceNeg, Int.reduceToNat, Int.toNat_natCast, Nat.reduceLT, and_self, Decidable.not_not, kR_1, kR_2, kR_3, kR_4, kR_5, kR_6, kR_7, kR_8, kR_9, kR_10, kR_11, kR_12, kR_13, kR_14, kR_15, kR_16, kR_17, kR_18, kR_19, kR_20, kR_21, kR_22, kR_23, pR_0, pR_5, pR_6, pR_8, pR_11, pR_16, pR_17, pR_18, pR_21, pR_22, pR_23, pR_24, pR_26, pR_28, pR_29, pR_30, pR_33, pR_34, pR_35, pR_38, pR_41, pR_42, pR_43]
  refine s_215_1 (Nat.le_of_ble_eq_true rfl) kR_1 (hhere d (by omega)) ?_
  rcases dgA_c cg with e | e | e | e | e
  · have g : dgA (T p) = 1 := by rw [e]; decide
    have haF := aF_1 (L := L) g
    rw [e] at haF
    have hc : acT T r c p = (110, T (p + 1) - 48, 0) := by unfold acT; rw [if_pos e]
    obtain ⟨x2, P2, M2, e2, rfl, f2, v2, rfl, b1, b2, b3⟩ := r_oneS (ru := ru) (fi := 48) (ma := 10) hR1 m14 (by decide) (by decide) d (by omega)
    have frK : Fr [14, 15] [17] M (uM M2 17 (k + 1) v2) := Fr_o (Fr_trans fM1 (Fr_mono f2 (by simp) (by simp))) (by decide) (by decide)
    have olK : ∀ j, j < k → uM M2 17 (k + 1) v2 17 j = M 17 j := fun j hj => by rw [uM_at, if_pos rfl, if_neg (by omega), f2.2 17 (by decide) (by decide)]; exact o17 j hj
    have u1 : ∀ j, uM M2 17 (k + 1) v2 1 j = M2 1 j := fun j => by rw [uM_ne (by decide)]
    rw [e] at m17 hM1
    simp only [s_215_0, s_215_4, s_215_5, s_215_6, s_215_8, s_215_11, s_215_12, s_215_14, s_215_17, s_215_18, s_215_20, s_215_23, s_215_24, s_215_26, s_215_29, s_215_30, s_215_32, s_215_35, s_215_36, s_215_37, s_215_43, s_215_44, s_215_45I, s_215_45, s_215_46, s_215_49, s_215_50, s_215_51, s_215_54, s_215_55, s_215_58, s_215_59, s_215_60, s_215_61, s_215_62, s_215_65, s_215_66, s_215_67, s_215_68, s_215_69, s_215_71, s_215_74, s_215_75, s_215_77, s_215_80, s_215_84, s_215_87, s_215_88, s_215_90, s_215_95, s_215_96, s_215_97, s_215_99, s_215_102, s_215_103, s_215_106, s_215_107, s_215_108, s_215_109, s_215_110, s_215_112, s_215_116, s_215_117, s_215_118, s_215_120, s_215_123, s_215_124, s_215_127, s_215_128, s_215_129, s_215_130, s_215_131, s_215_133, s_215_137, s_215_138, s_215_139, s_215_140, s_215_141, s_215_143, s_215_146, s_215_147, s_215_150, s_215_151, s_215_152, s_215_153, s_215_157, s_215_158, true_and, and_true, sc0, sc1, sc2, sc3, sc4, Option.toList, List.cons_append, List.nil_append, clr, ne_eq, not_false_eq_true, not_true_eq_false, false_and, and_false, true_or, or_true, or_false, false_or, forall_const, Nat.reduceEqDiff, List.length_nil, List.length_cons, Nat.zero_le, Nat.reduceAdd, Nat.reduceLeDiff, false_implies, true_implies, Int.reduceEq, Int.reduceNe, Int.reduceLT, Int.reduceLE, Int.reduceNeg, Int.reduceToNat, Int.toNat_natCast, Nat.reduceLT, and_self, Decidable.not_not, kR_1, kR_2, kR_3, kR_4, kR_5, kR_6, kR_7, kR_8, kR_9, kR_10, kR_11, kR_12, kR_13, kR_14, kR_15, kR_16, kR_17, kR_18, kR_19, kR_20, kR_21, kR_22, kR_23, pR_0, pR_5, pR_6, pR_8, pR_11, pR_16, pR_17, pR_18, pR_21, pR_22, pR_23, pR_24, pR_26, pR_28, pR_29, pR_30, pR_33, pR_34, pR_35, pR_38, pR_41, pR_42, pR_43, e, hp, EqW_o ep, EqW_o ek1, bk0]
    rw [← hM1]
    refine s_215_92 (Nat.le_of_ble_eq_true rfl) kR_1 e2 ?_
    simp only [s_215_0, s_215_4, s_215_5, s_215_6, s_215_8, s_215_11, s_215_12, s_215_14, s_215_17, s_215_18, s_215_20, s_215_23, s_215_24, s_215_26, s_215_29, s_215_30, s_215_32, s_215_35, s_215_36, s_215_37, s_215_43, s_215_44, s_215_45I, s_215_45, s_215_46, s_215_49, s_215_50, s_215_51, s_215_54, s_215_55, s_215_58, s_215_59, s_215_60, s_215_61, s_215_62, s_215_65, s_215_66, s_215_67, s_215_68, s_215_69, s_215_71, s_215_74, s_215_75, s_215_77, s_215_80, s_215_84, s_215_87, s_215_88, s_215_90, s_215_95, s_215_96, s_215_97, s_215_99, s_215_102, s_215_103, s_215_106, s_215_107, s_215_108, s_215_109, s_215_110, s_215_112, s_215_116, s_215_117, s_215_118, s_215_120, s_215_123, s_215_124, s_215_127, s_215_128, s_215_129, s_215_130, s_215_131, s_215_133, s_215_137, s_215_138, s_215_139, s_215_140, s_215_141, s_215_143, s_215_146, s_215_147, s_215_150, s_215_151, s_215_152, s_215_153, s_215_157, s_215_158, true_and, and_true, sc0, sc1, sc2, sc3, sc4, Option.toList, List.cons_append, List.nil_append, clr, ne_eq, not_false_eq_true, not_true_eq_false, false_and, and_false, true_or, or_true, or_false, false_or, forall_const, Nat.reduceEqDiff, List.length_nil, List.length_cons, Nat.zero_le, Nat.reduceAdd, Nat.reduceLeDiff, false_implies, true_implies, Int.reduceEq, Int.reduceNe, Int.reduceLT, Int.reduceLE, Int.reduceNeg, Int.reduceToNat, Int.toNat_natCast, Nat.reduceLT, and_self, Decidable.not_not, kR_1, kR_2, kR_3, kR_4, kR_5, kR_6, kR_7, kR_8, kR_9, kR_10, kR_11, kR_12, kR_13, kR_14, kR_15, kR_16, kR_17, kR_18, kR_19, kR_20, kR_21, kR_22, kR_23, pR_0, pR_5, pR_6, pR_8, pR_11, pR_16, pR_17, pR_18, pR_21, pR_22, pR_23, pR_24, pR_26, pR_28, pR_29, pR_30, pR_33, pR_34, pR_35, pR_38, pR_41, pR_42, pR_43, bk1]
    have pq := pl_d (T := T) (L := L) (ch := 110) (p := p) (i := 1) (by decide) (by decide)
    by_cases s1 : dgD T L (p + 1)
    · obtain ⟨y1, y2, y3⟩ := b2 m15 ⟨s1.1, s1.2.1, by have := s1.2.2; omega⟩
      rw [if_pos (pq.mpr s1)] at haF
      refine good _ frK olK haF (by rw [u1]; exact y2) (by rw [u1, y3, g]) ?_ ?_ ?_
      · rw [uM_at, if_pos rfl, if_neg (by omega), f2.2 17 (by decide) (by decide), hc]; exact m17
      · rw [uM_at, if_pos rfl, if_pos rfl, hc]; exact y1
      · intro q; rw [hc] at q; exact absurd rfl q
    · have y1 := b3 m15 (fun q => s1 ⟨q.1, q.2.1, by have := q.2.2; omega⟩)
      rw [if_neg (fun q => s1 (pq.mp q))] at haF
      exact bad _ (p + 1) frK olK haF (by rw [u1]; exact y1)
  · have g : dgA (T p) = 2 := by rw [e]; decide
    have haF := aF_2 (L := L) g
    rw [e] at haF
    have hc : acT T r c p = (108, fdA T r c (p + 1), 0) := by unfold acT; rw [if_neg (by omega), if_pos e]
    obtain ⟨x2, P2, M2, e2, rfl, f2, v2, rfl, b1, b2, b3, b4⟩ := r_readAny (ru := ru) hR1 m14 hD1 d (by omega)
    have frK : Fr [14, 15] [17] M (uM M2 17 (k + 1) v2) := Fr_o (Fr_trans fM1 (Fr_mono f2 (by simp) (by simp))) (by decide) (by decide)
    have olK : ∀ j, j < k → uM M2 17 (k + 1) v2 17 j = M 17 j := fun j hj => by rw [uM_at, if_pos rfl, if_neg (by omega), f2.2 17 (by decide) (by decide)]; exact o17 j hj
    have u1 : ∀ j, uM M2 17 (k + 1) v2 1 j = M2 1 j := fun j => by rw [uM_ne (by decide)]
    rw [e] at m17 hM1
    simp only [s_215_0, s_215_4, s_215_5, s_215_6, s_215_8, s_215_11, s_215_12, s_215_14, s_215_17, s_215_18, s_215_20, s_215_23, s_215_24, s_215_26, s_215_29, s_215_30, s_215_32, s_215_35, s_215_36, s_215_37, s_215_43, s_215_44, s_215_45I, s_215_45, s_215_46, s_215_49, s_215_50, s_215_51, s_215_54, s_215_55, s_215_58, s_215_59, s_215_60, s_215_61, s_215_62, s_215_65, s_215_66, s_215_67, s_215_68, s_215_69, s_215_71, s_215_74, s_215_75, s_215_77, s_215_80, s_215_84, s_215_87, s_215_88, s_215_90, s_215_95, s_215_96, s_215_97, s_215_99, s_215_102, s_215_103, s_215_106, s_215_107, s_215_108, s_215_109, s_215_110, s_215_112, s_215_116, s_215_117, s_215_118, s_215_120, s_215_123, s_215_124, s_215_127, s_215_128, s_215_129, s_215_130, s_215_131, s_215_133, s_215_137, s_215_138, s_215_139, s_215_140, s_215_141, s_215_143, s_215_146, s_215_147, s_215_150, s_215_151, s_215_152, s_215_153, s_215_157, s_215_158, true_and, and_true, sc0, sc1, sc2, sc3, sc4, Option.toList, List.cons_append, List.nil_append, clr, ne_eq, not_false_eq_true, not_true_eq_false, false_and, and_false, true_or, or_true, or_false, false_or, forall_const, Nat.reduceEqDiff, List.length_nil, List.length_cons, Nat.zero_le, Nat.reduceAdd, Nat.reduceLeDiff, false_implies, true_implies, Int.reduceEq, Int.reduceNe, Int.reduceLT, Int.reduceLE, Int.reduceNeg, Int.reduceToNat, Int.toNat_natCast, Nat.reduceLT, and_self, Decidable.not_not, kR_1, kR_2, kR_3, kR_4, kR_5, kR_6, kR_7, kR_8, kR_9, kR_10, kR_11, kR_12, kR_13, kR_14, kR_15, kR_16, kR_17, kR_18, kR_19, kR_20, kR_21, kR_22, kR_23, pR_0, pR_5, pR_6, pR_8, pR_11, pR_16, pR_17, pR_18, pR_21, pR_22, pR_23, pR_24, pR_26, pR_28, pR_29, pR_30, pR_33, pR_34, pR_35, pR_38, pR_41, pR_42, pR_43, e, hp, EqW_o ep, EqW_o ek1, bk0]
    rw [← hM1]
    refine s_215_81 (Nat.le_of_ble_eq_true rfl) kR_1 e2 ?_
    simp only [s_215_0, s_215_4, s_215_5, s_215_6, s_215_8, s_215_11, s_215_12, s_215_14, s_215_17, s_215_18, s_215_20, s_215_23, s_215_24, s_215_26, s_215_29, s_215_30, s_215_32, s_215_35, s_215_36, s_215_37, s_215_43, s_215_44, s_215_45I, s_215_45, s_215_46, s_215_49, s_215_50, s_215_51, s_215_54, s_215_55, s_215_58, s_215_59, s_215_60, s_215_61, s_215_62, s_215_65, s_215_66, s_215_67, s_215_68, s_215_69, s_215_71, s_215_74, s_215_75, s_215_77, s_215_80, s_215_84, s_215_87, s_215_88, s_215_90, s_215_95, s_215_96, s_215_97, s_215_99, s_215_102, s_215_103, s_215_106, s_215_107, s_215_108, s_215_109, s_215_110, s_215_112, s_215_116, s_215_117, s_215_118, s_215_120, s_215_123, s_215_124, s_215_127, s_215_128, s_215_129, s_215_130, s_215_131, s_215_133, s_215_137, s_215_138, s_215_139, s_215_140, s_215_141, s_215_143, s_215_146, s_215_147, s_215_150, s_215_151, s_215_152, s_215_153, s_215_157, s_215_158, true_and, and_true, sc0, sc1, sc2, sc3, sc4, Option.toList, List.cons_append, List.nil_append, clr, ne_eq, not_false_eq_true, not_true_eq_false, false_and, and_false, true_or, or_true, or_false, false_or, forall_const, Nat.reduceEqDiff, List.length_nil, List.length_cons, Nat.zero_le, Nat.reduceAdd, Nat.reduceLeDiff, false_implies, true_implies, Int.reduceEq, Int.reduceNe, Int.reduceLT, Int.reduceLE, Int.reduceNeg, Int.reduceToNat, Int.toNat_natCast, Nat.reduceLT, and_self, Decidable.not_not, kR_1, kR_2, kR_3, kR_4, kR_5, kR_6, kR_7, kR_8, kR_9, kR_10, kR_11, kR_12, kR_13, kR_14, kR_15, kR_16, kR_17, kR_18, kR_19, kR_20, kR_21, kR_22, kR_23, pR_0, pR_5, pR_6, pR_8, pR_11, pR_16, pR_17, pR_18, pR_21, pR_22, pR_23, pR_24, pR_26, pR_28, pR_29, pR_30, pR_33, pR_34, pR_35, pR_38, pR_41, pR_42, pR_43, bk1]
    have pq := pl_d (T := T) (L := L) (ch := 108) (p := p) (i := 1) (by decide) (by decide)
    have pq2 := pl_d (T := T) (L := L) (ch := 108) (p := p) (i := 2) (by decide) (by decide)
    by_cases s1 : dgD T L (p + 1)
    case neg =>
      rw [if_neg (fun q => s1 (pq.mp q))] at haF
      exact bad _ (p + 1) frK olK haF (by rw [u1]; exact b3 m15 s1)
    rw [if_pos (pq.mpr s1)] at haF
    by_cases s2 : dgD T L (p + 2)
    · obtain ⟨y1, y2, y3⟩ := b2 m15 s1 s2
      rw [if_pos (pq2.mpr s2)] at haF
      refine good _ frK olK haF (by rw [u1]; exact y2) (by rw [u1, y3, g]) ?_ ?_ ?_
      · rw [uM_at, if_pos rfl, if_neg (by omega), f2.2 17 (by decide) (by decide), hc]; exact m17
      · rw [uM_at, if_pos rfl, if_pos rfl, hc]; exact y1
      · intro _ q; rw [hc] at q; exact absurd rfl q
    · rw [if_neg (fun q => s2 (pq2.mp q))] at haF
      exact bad _ (p + 2) frK olK haF (by rw [u1]; exact b4 m15 s1 s2)
  · have g : dgA (T p) = 3 := by rw [e]; decide
    have haF := aF_3 (L := L) g
    rw [e] at haF
    have hc : acT T r c p = (98, fdA T r c (p + 1), T (p + 3) - 48) := by unfold acT; rw [if_neg (by omega), if_neg (by omega), if_pos e]
    obtain ⟨x2, P2, M2, e2, rfl, f2, v2, rfl, b1, b2, b3, b4⟩ := r_readAny (ru := ru) hR1 m14 hD1 d (by omega)
    obtain ⟨K1, hK1⟩ : ∃ J, J = uM M2 17 (k + 1) v2 := ⟨_, rfl⟩
    have fK1 : Fr [14, 15] [17] M K1 := by rw [hK1]; exact Fr_o (Fr_trans fM1 (Fr_mono f2 (by simp) (by simp))) (by decide) (by decide)
    have oK1 : ∀ j, j < k → K1 17 j = M 17 j := fun j hj => by rw [hK1, uM_at, if_pos rfl, if_neg (by omega), f2.2 17 (by decide) (by decide)]; exact o17 j hj
    have u1 : ∀ j, K1 1 j = M2 1 j := fun j => by rw [hK1, uM_ne (by decide)]
    have n14 : K1 1 15 = -1 → K1 1 14 = ((p + 3 : Nat) : Int) := fun q => by
      rw [u1] at q ⊢
      by_cases s1 : dgD T L (p + 1)
      · by_cases s2 : dgD T L (p + 2)
        · exact (b2 m15 s1 s2).2.2
        · have := b4 m15 s1 s2; omega
      · have := b3 m15 s1; omega
    obtain ⟨x3, P3, M3, e3, rfl, f3, v3, rfl, d1, d2, d3⟩ := r_oneS (ru := ru) (fi := 48) (ma := 4) (Rdg_fr h fK1 (by decide) (by decide)) n14 (by decide) (by decide) d (by omega)
    have frK : Fr [14, 15] [17] M (uM M3 17 (k + 2) v3) := Fr_o (Fr_trans fK1 (Fr_mono f3 (by simp) (by simp))) (by decide) (by decide)
    have olK : ∀ j, j < k → uM M3 17 (k + 2) v3 17 j = M 17 j := fun j hj => by rw [uM_at, if_pos rfl, if_neg (by omega), f3.2 17 (by decide) (by decide)]; exact oK1 j hj
    have u3 : ∀ j, uM M3 17 (k + 2) v3 1 j = M3 1 j := fun j => by rw [uM_ne (by decide)]
    rw [e] at m17 hM1
    simp only [s_215_0, s_215_4, s_215_5, s_215_6, s_215_8, s_215_11, s_215_12, s_215_14, s_215_17, s_215_18, s_215_20, s_215_23, s_215_24, s_215_26, s_215_29, s_215_30, s_215_32, s_215_35, s_215_36, s_215_37, s_215_43, s_215_44, s_215_45I, s_215_45, s_215_46, s_215_49, s_215_50, s_215_51, s_215_54, s_215_55, s_215_58, s_215_59, s_215_60, s_215_61, s_215_62, s_215_65, s_215_66, s_215_67, s_215_68, s_215_69, s_215_71, s_215_74, s_215_75, s_215_77, s_215_80, s_215_84, s_215_87, s_215_88, s_215_90, s_215_95, s_215_96, s_215_97, s_215_99, s_215_102, s_215_103, s_215_106, s_215_107, s_215_108, s_215_109, s_215_110, s_215_112, s_215_116, s_215_117, s_215_118, s_215_120, s_215_123, s_215_124, s_215_127, s_215_128, s_215_129, s_215_130, s_215_131, s_215_133, s_215_137, s_215_138, s_215_139, s_215_140, s_215_141, s_215_143, s_215_146, s_215_147, s_215_150, s_215_151, s_215_152, s_215_153, s_215_157, s_215_158, true_and, and_true, sc0, sc1, sc2, sc3, sc4, Option.toList, List.cons_append, List.nil_append, clr, ne_eq, not_false_eq_true, not_true_eq_false, false_and, and_false, true_or, or_true, or_false, false_or, forall_const, Nat.reduceEqDiff, List.length_nil, List.length_cons, Nat.zero_le, Nat.reduceAdd, Nat.reduceLeDiff, false_implies, true_implies, Int.reduceEq, Int.reduceNe, Int.reduceLT, Int.reduceLE, Int.reduceNeg, Int.reduceToNat, Int.toNat_natCast, Nat.reduceLT, and_self, Decidable.not_not, kR_1, kR_2, kR_3, kR_4, kR_5, kR_6, kR_7, kR_8, kR_9, kR_10, kR_11, kR_12, kR_13, kR_14, kR_15, kR_16, kR_17, kR_18, kR_19, kR_20, kR_21, kR_22, kR_23, pR_0, pR_5, pR_6, pR_8, pR_11, pR_16, pR_17, pR_18, pR_21, pR_22, pR_23, pR_24, pR_26, pR_28, pR_29, pR_30, pR_33, pR_34, pR_35, pR_38, pR_41, pR_42, pR_43, e, hp, EqW_o ep, EqW_o ek1, bk0]
    rw [← hM1]
    refine s_215_81 (Nat.le_of_ble_eq_true rfl) kR_1 e2 ?_
    simp only [s_215_0, s_215_4, s_215_5, s_215_6, s_215_8, s_215_11, s_215_12, s_215_14, s_215_17, s_215_18, s_215_20, s_215_23, s_215_24, s_215_26, s_215_29, s_215_30, s_215_32, s_215_35, s_215_36, s_215_37, s_215_43, s_215_44, s_215_45I, s_215_45, s_215_46, s_215_49, s_215_50, s_215_51, s_215_54, s_215_55, s_215_58, s_215_59, s_215_60, s_215_61, s_215_62, s_215_65, s_215_66, s_215_67, s_215_68, s_215_69, s_215_71, s_215_74, s_215_75, s_215_77, s_215_80, s_215_84, s_215_87, s_215_88, s_215_90, s_215_95, s_215_96, s_215_97, s_215_99, s_215_102, s_215_103, s_215_106, s_215_107, s_215_108, s_215_109, s_215_110, s_215_112, s_215_116, s_215_117, s_215_118, s_215_120, s_215_123, s_215_124, s_215_127, s_215_128, s_215_129, s_215_130, s_215_131, s_215_133, s_215_137, s_215_138, s_215_139, s_215_140, s_215_141, s_215_143, s_215_146, s_215_147, s_215_150, s_215_151, s_215_152, s_215_153, s_215_157, s_215_158, true_and, and_true, sc0, sc1, sc2, sc3, sc4, Option.toList, List.cons_append, List.nil_append, clr, ne_eq, not_false_eq_true, not_true_eq_false, false_and, and_false, true_or, or_true, or_false, false_or, forall_const, Nat.reduceEqDiff, List.length_nil, List.length_cons, Nat.zero_le, Nat.reduceAdd, Nat.reduceLeDiff, false_implies, true_implies, Int.reduceEq, Int.reduceNe, Int.reduceLT, Int.reduceLE, Int.reduceNeg, Int.reduceToNat, Int.toNat_natCast, Nat.reduceLT, and_self, Decidable.not_not, kR_1, kR_2, kR_3, kR_4, kR_5, kR_6, kR_7, kR_8, kR_9, kR_10, kR_11, kR_12, kR_13, kR_14, kR_15, kR_16, kR_17, kR_18, kR_19, kR_20, kR_21, kR_22, kR_23, pR_0, pR_5, pR_6, pR_8, pR_11, pR_16, pR_17, pR_18, pR_21, pR_22, pR_23, pR_24, pR_26, pR_28, pR_29, pR_30, pR_33, pR_34, pR_35, pR_38, pR_41, pR_42, pR_43, bk1, EqW_o ek2]
    rw [← hK1]
    refine s_215_113 (Nat.le_of_ble_eq_true rfl) kR_1 e3 ?_
    simp only [s_215_0, s_215_4, s_215_5, s_215_6, s_215_8, s_215_11, s_215_12, s_215_14, s_215_17, s_215_18, s_215_20, s_215_23, s_215_24, s_215_26, s_215_29, s_215_30, s_215_32, s_215_35, s_215_36, s_215_37, s_215_43, s_215_44, s_215_45I, s_215_45, s_215_46, s_215_49, s_215_50, s_215_51, s_215_54, s_215_55, s_215_58, s_215_59, s_215_60, s_215_61, s_215_62, s_215_65, s_215_66, s_215_67, s_215_68, s_215_69, s_215_71, s_215_74, s_215_75, s_215_77, s_215_80, s_215_84, s_215_87, s_215_88, s_215_90, s_215_95, s_215_96, s_215_97, s_215_99, s_215_102, s_215_103, s_215_106, s_215_107, s_215_108, s_215_109, s_215_110, s_215_112, s_215_116, s_215_117, s_215_118, s_215_120, s_215_123, s_215_124, s_215_127, s_215_128, s_215_129, s_215_130, s_215_131, s_215_133, s_215_137, s_215_138, s_215_139, s_215_140, s_215_141, s_215_143, s_215_146, s_215_147, s_215_150, s_215_151, s_215_152, s_215_153, s_215_157, s_215_158, true_and, and_true, sc0, sc1, sc2, sc3, sc4, Option.toList, List.cons_append, List.nil_append, clr, ne_eq, not_false_eq_true, not_true_eq_false, false_and, and_false, true_or, or_true, or_false, false_or, forall_const, Nat.reduceEqDiff, List.length_nil, List.length_cons, Nat.zero_le, Nat.reduceAdd, Nat.reduceLeDiff, false_implies, true_implies, Int.reduceEq, Int.reduceNe, Int.reduceLT, Int.reduceLE, Int.reduceNeg, Int.reduceToNat, Int.toNat_natCast, Nat.reduceLT, and_self, Decidable.not_not, kR_1, kR_2, kR_3, kR_4, kR_5, kR_6, kR_7, kR_8, kR_9, kR_10, kR_11, kR_12, kR_13, kR_14, kR_15, kR_16, kR_17, kR_18, kR_19, kR_20, kR_21, kR_22, kR_23, pR_0, pR_5, pR_6, pR_8, pR_11, pR_16, pR_17, pR_18, pR_21, pR_22, pR_23, pR_24, pR_26, pR_28, pR_29, pR_30, pR_33, pR_34, pR_35, pR_38, pR_41, pR_42, pR_43, bk2]
    have pq := pl_d (T := T) (L := L) (ch := 98) (p := p) (i := 1) (by decide) (by decide)
    have pq2 := pl_d (T := T) (L := L) (ch := 98) (p := p) (i := 2) (by decide) (by decide)
    have pq3 : plA T L 98 p 3 ↔ (p + 3 < L ∧ 48 ≤ T (p + 3) ∧ T (p + 3) < 48 + 4) := by
      show (p + 3 < L ∧ loA 98 3 ≤ T (p + 3) ∧ T (p + 3) ≤ hiA 98 3) ↔ _
      rw [show loA 98 3 = 48 by decide, show hiA 98 3 = 51 by decide]
      omega
    by_cases s1 : dgD T L (p + 1)
    case neg =>
      rw [if_neg (fun q => s1 (pq.mp q))] at haF
      have y := b3 m15 s1
      exact bad _ (p + 1) frK olK haF (by rw [u3, d1 (by rw [u1, y]; omega), u1]; exact y)
    rw [if_pos (pq.mpr s1)] at haF
    by_cases s2 : dgD T L (p + 2)
    case neg =>
      rw [if_neg (fun q => s2 (pq2.mp q))] at haF
      have y := b4 m15 s1 s2
      exact bad _ (p + 2) frK olK haF (by rw [u3, d1 (by rw [u1, y]; omega), u1]; exact y)
    rw [if_pos (pq2.mpr s2)] at haF
    obtain ⟨y1, y2, y3⟩ := b2 m15 s1 s2
    have k15 : K1 1 15 = -1 := by rw [u1]; exact y2
    by_cases s3 : p + 3 < L ∧ 48 ≤ T (p + 3) ∧ T (p + 3) < 48 + 4
    · obtain ⟨z1, z2, z3⟩ := d2 k15 s3
      rw [if_pos (pq3.mpr s3)] at haF
      refine good _ frK olK haF (by rw [u3]; exact z2) (by rw [u3, z3, g]) ?_ ?_ ?_
      · rw [uM_at, if_pos rfl, if_neg (by omega), f3.2 17 (by decide) (by decide), hK1, uM_at, if_pos rfl, if_neg (by omega), f2.2 17 (by decide) (by decide), hc]; exact m17
      · rw [uM_at, if_pos rfl, if_neg (by omega), f3.2 17 (by decide) (by decide), hK1, uM_at, if_pos rfl, if_pos rfl, hc]; exact y1
      · intro _ _; rw [uM_at, if_pos rfl, if_pos rfl, hc]; exact z1
    · rw [if_neg (fun q => s3 (pq3.mp q))] at haF
      exact bad _ (p + 3) frK olK haF (by rw [u3]; exact d3 k15 s3)
  · have g : dgA (T p) = 2 := by rw [e]; decide
    have haF := aF_2 (L := L) g
    rw [e] at haF
    have hc : acT T r c p = (103, T (p + 1) - 48, T (p + 2) - 48) := by unfold acT; rw [if_neg (by omega), if_neg (by omega), if_neg (by omega), if_pos e]
    obtain ⟨x2, P2, M2, e2, rfl, f2, v2, rfl, b1, b2, b3⟩ := r_oneS (ru := ru) (fi := 48) (ma := 10) hR1 m14 (by decide) (by decide) d (by omega)
    have b2' : dgD T L (p + 1) → v2 = T (p + 1) - 48 ∧ M2 1 15 = -1 ∧ M2 1 14 = ((p + 1 + 1 : Nat) : Int) := fun q => b2 m15 ⟨q.1, q.2.1, by have := q.2.2; omega⟩
    have b3' : ¬ dgD T L (p + 1) → M2 1 15 = ((p + 1 : Nat) : Int) := fun q => b3 m15 (fun q2 => q ⟨q2.1, q2.2.1, by have := q2.2.2; omega⟩)
    obtain ⟨K1, hK1⟩ : ∃ J, J = uM M2 17 (k + 1) v2 := ⟨_, rfl⟩
    have fK1 : Fr [14, 15] [17] M K1 := by rw [hK1]; exact Fr_o (Fr_trans fM1 (Fr_mono f2 (by simp) (by simp))) (by decide) (by decide)
    have oK1 : ∀ j, j < k → K1 17 j = M 17 j := fun j hj => by rw [hK1, uM_at, if_pos rfl, if_neg (by omega), f2.2 17 (by decide) (by decide)]; exact o17 j hj
    have u1 : ∀ j, K1 1 j = M2 1 j := fun j => by rw [hK1, uM_ne (by decide)]
    have n14 : K1 1 15 = -1 → K1 1 14 = ((p + 2 : Nat) : Int) := fun q => by
      rw [u1] at q ⊢
      by_cases s1 : dgD T L (p + 1)
      · exact (b2' s1).2.2
      · have := b3' s1; omega
    obtain ⟨x3, P3, M3, e3, rfl, f3, v3, rfl, d1, d2, d3⟩ := r_oneS (ru := ru) (fi := 49) (ma := 3) (Rdg_fr h fK1 (by decide) (by decide)) n14 (by decide) (by decide) d (by omega)
    obtain ⟨v4, hv4⟩ : ∃ v, v = w32 (v3 + 1) := ⟨_, rfl⟩
    have hv4' := EqW_i hv4.symm
    have frK : Fr [14, 15] [17] M (uM M3 17 (k + 2) v4) := Fr_o (Fr_trans fK1 (Fr_mono f3 (by simp) (by simp))) (by decide) (by decide)
    have olK : ∀ j, j < k → uM M3 17 (k + 2) v4 17 j = M 17 j := fun j hj => by rw [uM_at, if_pos rfl, if_neg (by omega), f3.2 17 (by decide) (by decide)]; exact oK1 j hj
    have u3 : ∀ j, uM M3 17 (k + 2) v4 1 j = M3 1 j := fun j => by rw [uM_ne (by decide)]
    rw [e] at m17 hM1
    simp only [s_215_0, s_215_4, s_215_5, s_215_6, s_215_8, s_215_11, s_215_12, s_215_14, s_215_17, s_215_18, s_215_20, s_215_23, s_215_24, s_215_26, s_215_29, s_215_30, s_215_32, s_215_35, s_215_36, s_215_37, s_215_43, s_215_44, s_215_45I, s_215_45, s_215_46, s_215_49, s_215_50, s_215_51, s_215_54, s_215_55, s_215_58, s_215_59, s_215_60, s_215_61, s_215_62, s_215_65, s_215_66, s_215_67, s_215_68, s_215_69, s_215_71, s_215_74, s_215_75, s_215_77, s_215_80, s_215_84, s_215_87, s_215_88, s_215_90, s_215_95, s_215_96, s_215_97, s_215_99, s_215_102, s_215_103, s_215_106, s_215_107, s_215_108, s_215_109, s_215_110, s_215_112, s_215_116, s_215_117, s_215_118, s_215_120, s_215_123, s_215_124, s_215_127, s_215_128, s_215_129, s_215_130, s_215_131, s_215_133, s_215_137, s_215_138, s_215_139, s_215_140, s_215_141, s_215_143, s_215_146, s_215_147, s_215_150, s_215_151, s_215_152, s_215_153, s_215_157, s_215_158, true_and, and_true, sc0, sc1, sc2, sc3, sc4, Option.toList, List.cons_append, List.nil_append, clr, ne_eq, not_false_eq_true, not_true_eq_false, false_and, and_false, true_or, or_true, or_false, false_or, forall_const, Nat.reduceEqDiff, List.length_nil, List.length_cons, Nat.zero_le, Nat.reduceAdd, Nat.reduceLeDiff, false_implies, true_implies, Int.reduceEq, Int.reduceNe, Int.reduceLT, Int.reduceLE, Int.reduceNeg, Int.reduceToNat, Int.toNat_natCast, Nat.reduceLT, and_self, Decidable.not_not, kR_1, kR_2, kR_3, kR_4, kR_5, kR_6, kR_7, kR_8, kR_9, kR_10, kR_11, kR_12, kR_13, kR_14, kR_15, kR_16, kR_17, kR_18, kR_19, kR_20, kR_21, kR_22, kR_23, pR_0, pR_5, pR_6, pR_8, pR_11, pR_16, pR_17, pR_18, pR_21, pR_22, pR_23, pR_24, pR_26, pR_28, pR_29, pR_30, pR_33, pR_34, pR_35, pR_38, pR_41, pR_42, pR_43, e, hp, EqW_o ep, EqW_o ek1, bk0]
    rw [← hM1]
    refine s_215_92 (Nat.le_of_ble_eq_true rfl) kR_1 e2 ?_
    simp only [s_215_0, s_215_4, s_215_5, s_215_6, s_215_8, s_215_11, s_215_12, s_215_14, s_215_17, s_215_18, s_215_20, s_215_23, s_215_24, s_215_26, s_215_29, s_215_30, s_215_32, s_215_35, s_215_36, s_215_37, s_215_43, s_215_44, s_215_45I, s_215_45, s_215_46, s_215_49, s_215_50, s_215_51, s_215_54, s_215_55, s_215_58, s_215_59, s_215_60, s_215_61, s_215_62, s_215_65, s_215_66, s_215_67, s_215_68, s_215_69, s_215_71, s_215_74, s_215_75, s_215_77, s_215_80, s_215_84, s_215_87, s_215_88, s_215_90, s_215_95, s_215_96, s_215_97, s_215_99, s_215_102, s_215_103, s_215_106, s_215_107, s_215_108, s_215_109, s_215_110, s_215_112, s_215_116, s_215_117, s_215_118, s_215_120, s_215_123, s_215_124, s_215_127, s_215_128, s_215_129, s_215_130, s_215_131, s_215_133, s_215_137, s_215_138, s_215_139, s_215_140, s_215_141, s_215_143, s_215_146, s_215_147, s_215_150, s_215_151, s_215_152, s_215_153, s_215_157, s_215_158, true_and, and_true, sc0, sc1, sc2, sc3, sc4, Option.toList, List.cons_append, List.nil_append, clr, ne_eq, not_false_eq_true, not_true_eq_false, false_and, and_false, true_or, or_true, or_false, false_or, forall_const, Nat.reduceEqDiff, List.length_nil, List.length_cons, Nat.zero_le, Nat.reduceAdd, Nat.reduceLeDiff, false_implies, true_implies, Int.reduceEq, Int.reduceNe, Int.reduceLT, Int.reduceLE, Int.reduceNeg, Int.reduceToNat, Int.toNat_natCast, Nat.reduceLT, and_self, Decidable.not_not, kR_1, kR_2, kR_3, kR_4, kR_5, kR_6, kR_7, kR_8, kR_9, kR_10, kR_11, kR_12, kR_13, kR_14, kR_15, kR_16, kR_17, kR_18, kR_19, kR_20, kR_21, kR_22, kR_23, pR_0, pR_5, pR_6, pR_8, pR_11, pR_16, pR_17, pR_18, pR_21, pR_22, pR_23, pR_24, pR_26, pR_28, pR_29, pR_30, pR_33, pR_34, pR_35, pR_38, pR_41, pR_42, pR_43, bk1, EqW_o ek2]
    rw [← hK1]
    refine s_215_134 (Nat.le_of_ble_eq_true rfl) kR_1 e3 ?_
    simp only [s_215_0, s_215_4, s_215_5, s_215_6, s_215_8, s_215_11, s_215_12, s_215_14, s_215_17, s_215_18, s_215_20, s_215_23, s_215_24, s_215_26, s_215_29, s_215_30, s_215_32, s_215_35, s_215_36, s_215_37, s_215_43, s_215_44, s_215_45I, s_215_45, s_215_46, s_215_49, s_215_50, s_215_51, s_215_54, s_215_55, s_215_58, s_215_59, s_215_60, s_215_61, s_215_62, s_215_65, s_215_66, s_215_67, s_215_68, s_215_69, s_215_71, s_215_74, s_215_75, s_215_77, s_215_80, s_215_84, s_215_87, s_215_88, s_215_90, s_215_95, s_215_96, s_215_97, s_215_99, s_215_102, s_215_103, s_215_106, s_215_107, s_215_108, s_215_109, s_215_110, s_215_112, s_215_116, s_215_117, s_215_118, s_215_120, s_215_123, s_215_124, s_215_127, s_215_128, s_215_129, s_215_130, s_215_131, s_215_133, s_215_137, s_215_138, s_215_139, s_215_140, s_215_141, s_215_143, s_215_146, s_215_147, s_215_150, s_215_151, s_215_152, s_215_153, s_215_157, s_215_158, true_and, and_true, sc0, sc1, sc2, sc3, sc4, Option.toList, List.cons_append, List.nil_append, clr, ne_eq, not_false_eq_true, not_true_eq_false, false_and, and_false, true_or, or_true, or_false, false_or, forall_const, Nat.reduceEqDiff, List.length_nil, List.length_cons, Nat.zero_le, Nat.reduceAdd, Nat.reduceLeDiff, false_implies, true_implies, Int.reduceEq, Int.reduceNe, Int.reduceLT, Int.reduceLE, Int.reduceNeg, Int.reduceToNat, Int.toNat_natCast, Nat.reduceLT, and_self, Decidable.not_not, kR_1, kR_2, kR_3, kR_4, kR_5, kR_6, kR_7, kR_8, kR_9, kR_10, kR_11, kR_12, kR_13, kR_14, kR_15, kR_16, kR_17, kR_18, kR_19, kR_20, kR_21, kR_22, kR_23, pR_0, pR_5, pR_6, pR_8, pR_11, pR_16, pR_17, pR_18, pR_21, pR_22, pR_23, pR_24, pR_26, pR_28, pR_29, pR_30, pR_33, pR_34, pR_35, pR_38, pR_41, pR_42, pR_43, bk2, EqW_o hv4']
    have pq := pl_d (T := T) (L := L) (ch := 103) (p := p) (i := 1) (by decide) (by decide)
    have pq3 : plA T L 103 p 2 ↔ (p + 2 < L ∧ 49 ≤ T (p + 2) ∧ T (p + 2) < 49 + 3) := by
      show (p + 2 < L ∧ loA 103 2 ≤ T (p + 2) ∧ T (p + 2) ≤ hiA 103 2) ↔ _
      rw [show loA 103 2 = 49 by decide, show hiA 103 2 = 51 by decide]
      omega
    by_cases s1 : dgD T L (p + 1)
    case neg =>
      rw [if_neg (fun q => s1 (pq.mp q))] at haF
      have y := b3' s1
      exact bad _ (p + 1) frK olK haF (by rw [u3, d1 (by rw [u1, y]; omega), u1]; exact y)
    rw [if_pos (pq.mpr s1)] at haF
    obtain ⟨y1, y2, y3⟩ := b2' s1
    have k15 : K1 1 15 = -1 := by rw [u1]; exact y2
    by_cases s3 : p + 2 < L ∧ 49 ≤ T (p + 2) ∧ T (p + 2) < 49 + 3
    · obtain ⟨z1, z2, z3⟩ := d2 k15 s3
      rw [if_pos (pq3.mpr s3)] at haF
      have s4 := s3.2
      refine good _ frK olK haF (by rw [u3]; exact z2) (by rw [u3, z3, g]) ?_ ?_ ?_
      · rw [uM_at, if_pos rfl, if_neg (by omega), f3.2 17 (by decide) (by decide), hK1, uM_at, if_pos rfl, if_neg (by omega), f2.2 17 (by decide) (by decide), hc]; exact m17
      · rw [uM_at, if_pos rfl, if_neg (by omega), f3.2 17 (by decide) (by decide), hK1, uM_at, if_pos rfl, if_pos rfl, hc]; exact y1
      · intro _ _; rw [uM_at, if_pos rfl, if_pos rfl, hc, hv4, z1, w32s (by omega)]; show T (p + 2) - 49 + 1 = T (p + 2) - 48; omega
    · rw [if_neg (fun q => s3 (pq3.mp q))] at haF
      exact bad _ (p + 2) frK olK haF (by rw [u3]; exact d3 k15 s3)
  · have g : dgA (T p) = 3 := by rw [e]; decide
    have haF := aF_3 (L := L) g
    rw [e] at haF
    have hc : acT T r c p = (100, T (p + 1) - 48, fdA T r c (p + 2)) := by unfold acT; rw [if_neg (by omega), if_neg (by omega), if_neg (by omega), if_neg (by omega)]
    obtain ⟨x2, P2, M2, e2, rfl, f2, v2, rfl, b1, b2, b3⟩ := r_oneS (ru := ru) (fi := 48) (ma := 10) hR1 m14 (by decide) (by decide) d (by omega)
    have b2' : dgD T L (p + 1) → v2 = T (p + 1) - 48 ∧ M2 1 15 = -1 ∧ M2 1 14 = ((p + 1 + 1 : Nat) : Int) := fun q => b2 m15 ⟨q.1, q.2.1, by have := q.2.2; omega⟩
    have b3' : ¬ dgD T L (p + 1) → M2 1 15 = ((p + 1 : Nat) : Int) := fun q => b3 m15 (fun q2 => q ⟨q2.1, q2.2.1, by have := q2.2.2; omega⟩)
    obtain ⟨K1, hK1⟩ : ∃ J, J = uM M2 17 (k + 1) v2 := ⟨_, rfl⟩
    have fK1 : Fr [14, 15] [17] M K1 := by rw [hK1]; exact Fr_o (Fr_trans fM1 (Fr_mono f2 (by simp) (by simp))) (by decide) (by decide)
    have oK1 : ∀ j, j < k → K1 17 j = M 17 j := fun j hj => by rw [hK1, uM_at, if_pos rfl, if_neg (by omega), f2.2 17 (by decide) (by decide)]; exact o17 j hj
    have u1 : ∀ j, K1 1 j = M2 1 j := fun j => by rw [hK1, uM_ne (by decide)]
    have n14 : K1 1 15 = -1 → K1 1 14 = ((p + 2 : Nat) : Int) := fun q => by
      rw [u1] at q ⊢
      by_cases s1 : dgD T L (p + 1)
      · exact (b2' s1).2.2
      · have := b3' s1; omega
    obtain ⟨x3, P3, M3, e3, rfl, f3, v3, rfl, d1, d2, d3, d4⟩ := r_readAny (ru := ru) (Rdg_fr h fK1 (by decide) (by decide)) n14 (RD_fr3 hD fK1 (by decide)) d (by omega)
    have frK : Fr [14, 15] [17] M (uM M3 17 (k + 2) v3) := Fr_o (Fr_trans fK1 (Fr_mono f3 (by simp) (by simp))) (by decide) (by decide)
    have olK : ∀ j, j < k → uM M3 17 (k + 2) v3 17 j = M 17 j := fun j hj => by rw [uM_at, if_pos rfl, if_neg (by omega), f3.2 17 (by decide) (by decide)]; exact oK1 j hj
    have u3 : ∀ j, uM M3 17 (k + 2) v3 1 j = M3 1 j := fun j => by rw [uM_ne (by decide)]
    rw [e] at m17 hM1
    simp only [s_215_0, s_215_4, s_215_5, s_215_6, s_215_8, s_215_11, s_215_12, s_215_14, s_215_17, s_215_18, s_215_20, s_215_23, s_215_24, s_215_26, s_215_29, s_215_30, s_215_32, s_215_35, s_215_36, s_215_37, s_215_43, s_215_44, s_215_45I, s_215_45, s_215_46, s_215_49, s_215_50, s_215_51, s_215_54, s_215_55, s_215_58, s_215_59, s_215_60, s_215_61, s_215_62, s_215_65, s_215_66, s_215_67, s_215_68, s_215_69, s_215_71, s_215_74, s_215_75, s_215_77, s_215_80, s_215_84, s_215_87, s_215_88, s_215_90, s_215_95, s_215_96, s_215_97, s_215_99, s_215_102, s_215_103, s_215_106, s_215_107, s_215_108, s_215_109, s_215_110, s_215_112, s_215_116, s_215_117, s_215_118, s_215_120, s_215_123, s_215_124, s_215_127, s_215_128, s_215_129, s_215_130, s_215_131, s_215_133, s_215_137, s_215_138, s_215_139, s_215_140, s_215_141, s_215_143, s_215_146, s_215_147, s_215_150, s_215_151, s_215_152, s_215_153, s_215_157, s_215_158, true_and, and_true, sc0, sc1, sc2, sc3, sc4, Option.toList, List.cons_append, List.nil_append, clr, ne_eq, not_false_eq_true, not_true_eq_false, false_and, and_false, true_or, or_true, or_false, false_or, forall_const, Nat.reduceEqDiff, List.length_nil, List.length_cons, Nat.zero_le, Nat.reduceAdd, Nat.reduceLeDiff, false_implies, true_implies, Int.reduceEq, Int.reduceNe, Int.reduceLT, Int.reduceLE, Int.reduceNeg, Int.reduceToNat, Int.toNat_natCast, Nat.reduceLT, and_self, Decidable.not_not, kR_1, kR_2, kR_3, kR_4, kR_5, kR_6, kR_7, kR_8, kR_9, kR_10, kR_11, kR_12, kR_13, kR_14, kR_15, kR_16, kR_17, kR_18, kR_19, kR_20, kR_21, kR_22, kR_23, pR_0, pR_5, pR_6, pR_8, pR_11, pR_16, pR_17, pR_18, pR_21, pR_22, pR_23, pR_24, pR_26, pR_28, pR_29, pR_30, pR_33, pR_34, pR_35, pR_38, pR_41, pR_42, pR_43, e, hp, EqW_o ep, EqW_o ek1, bk0]
    rw [← hM1]
    refine s_215_92 (Nat.le_of_ble_eq_true rfl) kR_1 e2 ?_
    simp only [s_215_0, s_215_4, s_215_5, s_215_6, s_215_8, s_215_11, s_215_12, s_215_14, s_215_17, s_215_18, s_215_20, s_215_23, s_215_24, s_215_26, s_215_29, s_215_30, s_215_32, s_215_35, s_215_36, s_215_37, s_215_43, s_215_44, s_215_45I, s_215_45, s_215_46, s_215_49, s_215_50, s_215_51, s_215_54, s_215_55, s_215_58, s_215_59, s_215_60, s_215_61, s_215_62, s_215_65, s_215_66, s_215_67, s_215_68, s_215_69, s_215_71, s_215_74, s_215_75, s_215_77, s_215_80, s_215_84, s_215_87, s_215_88, s_215_90, s_215_95, s_215_96, s_215_97, s_215_99, s_215_102, s_215_103, s_215_106, s_215_107, s_215_108, s_215_109, s_215_110, s_215_112, s_215_116, s_215_117, s_215_118, s_215_120, s_215_123, s_215_124, s_215_127, s_215_128, s_215_129, s_215_130, s_215_131, s_215_133, s_215_137, s_215_138, s_215_139, s_215_140, s_215_141, s_215_143, s_215_146, s_215_147, s_215_150, s_215_151, s_215_152, s_215_153, s_215_157, s_215_158, true_and, and_true, sc0, sc1, sc2, sc3, sc4, Option.toList, List.cons_append, List.nil_append, clr, ne_eq, not_false_eq_true, not_true_eq_false, false_and, and_false, true_or, or_true, or_false, false_or, forall_const, Nat.reduceEqDiff, List.length_nil, List.length_cons, Nat.zero_le, Nat.reduceAdd, Nat.reduceLeDiff, false_implies, true_implies, Int.reduceEq, Int.reduceNe, Int.reduceLT, Int.reduceLE, Int.reduceNeg, Int.reduceToNat, Int.toNat_natCast, Nat.reduceLT, and_self, Decidable.not_not, kR_1, kR_2, kR_3, kR_4, kR_5, kR_6, kR_7, kR_8, kR_9, kR_10, kR_11, kR_12, kR_13, kR_14, kR_15, kR_16, kR_17, kR_18, kR_19, kR_20, kR_21, kR_22, kR_23, pR_0, pR_5, pR_6, pR_8, pR_11, pR_16, pR_17, pR_18, pR_21, pR_22, pR_23, pR_24, pR_26, pR_28, pR_29, pR_30, pR_33, pR_34, pR_35, pR_38, pR_41, pR_42, pR_43, bk1, EqW_o ek2]
    rw [← hK1]
    refine s_215_154 (Nat.le_of_ble_eq_true rfl) kR_1 e3 ?_
    simp only [s_215_0, s_215_4, s_215_5, s_215_6, s_215_8, s_215_11, s_215_12, s_215_14, s_215_17, s_215_18, s_215_20, s_215_23, s_215_24, s_215_26, s_215_29, s_215_30, s_215_32, s_215_35, s_215_36, s_215_37, s_215_43, s_215_44, s_215_45I, s_215_45, s_215_46, s_215_49, s_215_50, s_215_51, s_215_54, s_215_55, s_215_58, s_215_59, s_215_60, s_215_61, s_215_62, s_215_65, s_215_66, s_215_67, s_215_68, s_215_69, s_215_71, s_215_74, s_215_75, s_215_77, s_215_80, s_215_84, s_215_87, s_215_88, s_215_90, s_215_95, s_215_96, s_215_97, s_215_99, s_215_102, s_215_103, s_215_106, s_215_107, s_215_108, s_215_109, s_215_110, s_215_112, s_215_116, s_215_117, s_215_118, s_215_120, s_215_123, s_215_124, s_215_127, s_215_128, s_215_129, s_215_130, s_215_131, s_215_133, s_215_137, s_215_138, s_215_139, s_215_140, s_215_141, s_215_143, s_215_146, s_215_147, s_215_150, s_215_151, s_215_152, s_215_153, s_215_157, s_215_158, true_and, and_true, sc0, sc1, sc2, sc3, sc4, Option.toList, List.cons_append, List.nil_append, clr, ne_eq, not_false_eq_true, not_true_eq_false, false_and, and_false, true_or, or_true, or_false, false_or, forall_const, Nat.reduceEqDiff, List.length_nil, List.length_cons, Nat.zero_le, Nat.reduceAdd, Nat.reduceLeDiff, false_implies, true_implies, Int.reduceEq, Int.reduceNe, Int.reduceLT, Int.reduceLE, Int.reduceNeg, Int.reduceToNat, Int.toNat_natCast, Nat.reduceLT, and_self, Decidable.not_not, kR_1, kR_2, kR_3, kR_4, kR_5, kR_6, kR_7, kR_8, kR_9, kR_10, kR_11, kR_12, kR_13, kR_14, kR_15, kR_16, kR_17, kR_18, kR_19, kR_20, kR_21, kR_22, kR_23, pR_0, pR_5, pR_6, pR_8, pR_11, pR_16, pR_17, pR_18, pR_21, pR_22, pR_23, pR_24, pR_26, pR_28, pR_29, pR_30, pR_33, pR_34, pR_35, pR_38, pR_41, pR_42, pR_43, bk2]
    have pq := pl_d (T := T) (L := L) (ch := 100) (p := p) (i := 1) (by decide) (by decide)
    have pq2 := pl_d (T := T) (L := L) (ch := 100) (p := p) (i := 2) (by decide) (by decide)
    have pq3 := pl_d (T := T) (L := L) (ch := 100) (p := p) (i := 3) (by decide) (by decide)
    by_cases s1 : dgD T L (p + 1)
    case neg =>
      rw [if_neg (fun q => s1 (pq.mp q))] at haF
      have y := b3' s1
      exact bad _ (p + 1) frK olK haF (by rw [u3, d1 (by rw [u1, y]; omega), u1]; exact y)
    rw [if_pos (pq.mpr s1)] at haF
    obtain ⟨y1, y2, y3⟩ := b2' s1
    have k15 : K1 1 15 = -1 := by rw [u1]; exact y2
    by_cases s2 : dgD T L (p + 2)
    case neg =>
      rw [if_neg (fun q => s2 (pq2.mp q))] at haF
      exact bad _ (p + 2) frK olK haF (by rw [u3]; exact d3 k15 s2)
    rw [if_pos (pq2.mpr s2)] at haF
    by_cases s3 : dgD T L (p + 3)
    · obtain ⟨z1, z2, z3⟩ := d2 k15 s2 s3
      rw [if_pos (pq3.mpr s3)] at haF
      refine good _ frK olK haF (by rw [u3]; exact z2) (by rw [u3, z3, g]) ?_ ?_ ?_
      · rw [uM_at, if_pos rfl, if_neg (by omega), f3.2 17 (by decide) (by decide), hK1, uM_at, if_pos rfl, if_neg (by omega), f2.2 17 (by decide) (by decide), hc]; exact m17
      · rw [uM_at, if_pos rfl, if_neg (by omega), f3.2 17 (by decide) (by decide), hK1, uM_at, if_pos rfl, if_pos rfl, hc]; exact y1
      · intro _ _; rw [uM_at, if_pos rfl, if_pos rfl, hc]; exact z1
    · rw [if_neg (fun q => s3 (pq3.mp q))] at haF
      exact bad _ (p + 3) frK olK haF (by rw [u3]; exact d4 k15 s2 s3)
end
