/-! Path, Told, Past -/
theorem pC_big {b : Bool} {o k : Nat} (h : o ≠ 1) : PC b o k = (PCl.getD o []).getD k 0 := by
  unfold PC
  rw [if_neg (fun z => h z.1), if_neg (fun z => h z.1)]
theorem pa_k {g : Nat} (h : g < 6) : kd (kz LC) (152 + 2 * g) = (0, 5) := by
  have : ∀ g, g < 6 → kd (kz LC) (152 + 2 * g) = (0, 5) := by decide +kernel
  exact this g h
theorem pa_kf {g : Nat} (h : g < 6) : kd (kz LC) (153 + 2 * g) = (1, 36) := by
  have : ∀ g, g < 6 → kd (kz LC) (153 + 2 * g) = (1, 36) := by decide +kernel
  exact this g h
theorem pa_p {g : Nat} {b : Bool} (h : g < 6) : PC b (152 + 2 * g) 3 = 153 + 2 * g := by
  have : ∀ g, g < 6 → (PCl.getD (152 + 2 * g) []).getD 3 0 = 153 + 2 * g := by decide +kernel
  rw [pC_big (by omega)]
  exact this g h
theorem pa_at {g : Nat} {b : Bool} (h : g < 6) : PC b 146 g = 152 + 2 * g := by
  have : ∀ g, g < 6 → (PCl.getD 146 []).getD g 0 = 152 + 2 * g := by decide +kernel
  rw [pC_big (by omega)]
  exact this g h
theorem un_at {i : Nat} {b : Bool} (h : i < 12) : PC b 30 i = 33 + 8 * i := by
  have : ∀ g, g < 12 → (PCl.getD 30 []).getD g 0 = 33 + 8 * g := by decide +kernel
  rw [pC_big (by omega)]
  exact this i h
theorem ke_at {i : Nat} {b : Bool} (h : i < 2) : PC b 31 i = 129 + 8 * i := by
  have : ∀ g, g < 2 → (PCl.getD 31 []).getD g 0 = 129 + 8 * g := by decide +kernel
  rw [pC_big (by omega)]
  exact this i h
theorem un_st {i : Nat} (h : i < 12) : stI (33 + 8 * i) := by
  have : ∀ g, g < 12 → stI (33 + 8 * g) := by unfold stI; decide +kernel
  exact this i h
theorem ke_st {i : Nat} (h : i < 2) : stI (129 + 8 * i) := by
  have : ∀ g, g < 2 → stI (129 + 8 * g) := by unfold stI; decide +kernel
  exact this i h
theorem now_st : stI 5 := by unfold stI; decide
theorem trial_st : stI 13 := by unfold stI; decide
theorem before_st : stI 21 := by unfold stI; decide
section
variable {M : MM} {b : Bool} {g : Nat}
theorem c_Pclear (hg : g < 6) : Ct 1 58 [pR (152 + 2 * g)] LC (PC b) M none (PC b) (uM (uM (uM M (152 + 2 * g) 0 0) (152 + 2 * g) 1 0) (152 + 2 * g) 2 0) := by
  refine Ct_r [some (pR (152 + 2 * g))] (Nat.le_of_ble_eq_true rfl) rfl (fun d hd Q X hq => ?_)
  simp only [s_58_0, s_58_1, s_58_2, s_58_5, s_58_6, s_58_7, s_58_10, s_58_11, s_58_12, s_58_15, true_and, and_true, sc0, sc1, sc2, sc3, sc4, Option.toList, List.cons_append, List.nil_append, clr, ne_eq, not_false_eq_true, not_true_eq_false, false_and, and_false, true_or, or_true, or_false, false_or, forall_const, Nat.reduceEqDiff, List.length_nil, List.length_cons, Nat.zero_le, Nat.reduceAdd, Nat.reduceLeDiff, false_implies, true_implies, Int.reduceEq, Int.reduceNe, Int.reduceLT, Int.reduceLE, Int.reduceNeg, Int.reduceToNat, Int.toNat_natCast, Nat.reduceLT, and_self, Decidable.not_not, pa_k hg]
  exact hq
theorem c_isThere (hg : g < 6) : Ct 1 65 [pR (152 + 2 * g)] LC (PC b) M (some (pI (if 0 < M (152 + 2 * g) 1 then 1 else 0))) (PC b) M := by
  refine Ct_r [some (pR (152 + 2 * g))] (Nat.le_of_ble_eq_true rfl) rfl (fun d hd Q X hq => ?_)
  by_cases h : 0 < M (152 + 2 * g) 1
  · rw [if_pos h] at hq
    simp only [s_65_0, s_65_1, s_65_4, s_65_7, s_65_8, s_65_11, s_65_12, true_and, and_true, sc0, sc1, sc2, sc3, sc4, Option.toList, List.cons_append, List.nil_append, clr, ne_eq, not_false_eq_true, not_true_eq_false, false_and, and_false, true_or, or_true, or_false, false_or, forall_const, Nat.reduceEqDiff, List.length_nil, List.length_cons, Nat.zero_le, Nat.reduceAdd, Nat.reduceLeDiff, false_implies, true_implies, Int.reduceEq, Int.reduceNe, Int.reduceLT, Int.reduceLE, Int.reduceNeg, Int.reduceToNat, Int.toNat_natCast, Nat.reduceLT, and_self, Decidable.not_not, pa_k hg, show ¬ M (152 + 2 * g) 1 ≤ 0 by omega]
    exact hq
  · rw [if_neg h] at hq
    simp only [s_65_0, s_65_1, s_65_4, s_65_7, s_65_8, s_65_11, s_65_12, true_and, and_true, sc0, sc1, sc2, sc3, sc4, Option.toList, List.cons_append, List.nil_append, clr, ne_eq, not_false_eq_true, not_true_eq_false, false_and, and_false, true_or, or_true, or_false, false_or, forall_const, Nat.reduceEqDiff, List.length_nil, List.length_cons, Nat.zero_le, Nat.reduceAdd, Nat.reduceLeDiff, false_implies, true_implies, Int.reduceEq, Int.reduceNe, Int.reduceLT, Int.reduceLE, Int.reduceNeg, Int.reduceToNat, Int.toNat_natCast, Nat.reduceLT, and_self, Decidable.not_not, pa_k hg, show M (152 + 2 * g) 1 ≤ 0 by omega]
    exact hq
theorem c_Padd {f : Int} {n : Nat} (hg : g < 6) (hn : M (152 + 2 * g) 1 = (n : Int)) (h36 : n < 36) : Ct 1 62 [pR (152 + 2 * g), pI f] LC (PC b) M none (PC b) (uM (uM (uM M (153 + 2 * g) n f) (152 + 2 * g) 1 ((n + 1 : Nat) : Int)) (152 + 2 * g) 2 (lOr (M (152 + 2 * g) 2) (lShl 1 f))) := by
  refine Ct_r [some (pR (152 + 2 * g)), some (pI f)] (Nat.le_of_ble_eq_true rfl) rfl (fun d hd Q X hq => ?_)
  have e : ¬ 152 + 2 * g = 153 + 2 * g := by omega
  have e2 : ¬ (1 : Nat) = 2 := by decide
  have e3 : ¬ (2 : Nat) = 1 := by decide
  simp only [s_62_0, s_62_1, s_62_4, s_62_5, s_62_8, s_62_9, s_62_12, s_62_13, s_62_16, s_62_17, s_62_20, s_62_21, s_62_22, s_62_23I, s_62_23, s_62_24, s_62_27, s_62_28, s_62_29, s_62_32, s_62_33I, s_62_33, s_62_34, s_62_37, s_62_38, s_62_39, s_62_40, s_62_41, s_62_44, true_and, and_true, sc0, sc1, sc2, sc3, sc4, Option.toList, List.cons_append, List.nil_append, clr, ne_eq, not_false_eq_true, not_true_eq_false, false_and, and_false, true_or, or_true, or_false, false_or, forall_const, Nat.reduceEqDiff, List.length_nil, List.length_cons, Nat.zero_le, Nat.reduceAdd, Nat.reduceLeDiff, false_implies, true_implies, Int.reduceEq, Int.reduceNe, Int.reduceLT, Int.reduceLE, Int.reduceNeg, Int.reduceToNat, Int.toNat_natCast, Nat.reduceLT, and_self, Decidable.not_not, pa_k hg, pa_p hg, pa_kf hg, hn, show ¬ ((36 : Nat) : Int) ≤ (n : Int) by omega, show ((0 : Int) ≤ (n : Int)) by omega, show ((n : Int) < ((36 : Nat) : Int)) by omega, uM_at, e, e3, if_true, if_false, w32n (show n < 1000000 by omega), show ¬ 153 + 2 * g = 0 by omega, show (1 ≤ 1) by omega, show (1 ≤ 9) by omega]
  exact hq
theorem c_Pat {s : Int} {n : Nat} (hg : g < 6) (hn : M (152 + 2 * g) 1 = (n : Int)) (h36 : n ≤ 36) : Ct 1 93 [pR (152 + 2 * g), pI s] LC (PC b) M (some (pI (if n = 0 then -1 else M (153 + 2 * g) (min s.toNat (n - 1))))) (PC b) M := by
  refine Ct_r [some (pR (152 + 2 * g)), some (pI s)] (Nat.le_of_ble_eq_true rfl) rfl (fun d hd Q X hq => ?_)
  by_cases h0 : n = 0
  · subst h0
    rw [if_pos rfl] at hq
    simp only [s_93_0, s_93_1, s_93_4, s_93_7, s_93_8, s_93_9, s_93_10, s_93_13, s_93_14, s_93_15, s_93_16, s_93_19, s_93_20, s_93_21, s_93_24, s_93_27, s_93_28, true_and, and_true, sc0, sc1, sc2, sc3, sc4, Option.toList, List.cons_append, List.nil_append, clr, ne_eq, not_false_eq_true, not_true_eq_false, false_and, and_false, true_or, or_true, or_false, false_or, forall_const, Nat.reduceEqDiff, List.length_nil, List.length_cons, Nat.zero_le, Nat.reduceAdd, Nat.reduceLeDiff, false_implies, true_implies, Int.reduceEq, Int.reduceNe, Int.reduceLT, Int.reduceLE, Int.reduceNeg, Int.reduceToNat, Int.toNat_natCast, Nat.reduceLT, and_self, Decidable.not_not, pa_k hg, hn, show ¬ ((0 : Nat) : Int) ≠ 0 by decide]
    simpa using hq
  · rw [if_neg h0] at hq
    have e : w32 ((n : Int) - 1) = ((n - 1 : Nat) : Int) := by unfold w32; omega
    simp only [s_93_0, s_93_1, s_93_4, s_93_7, s_93_8, s_93_9, s_93_10, s_93_13, s_93_14, s_93_15, s_93_16, s_93_19, s_93_20, s_93_21, s_93_24, s_93_27, s_93_28, true_and, and_true, sc0, sc1, sc2, sc3, sc4, Option.toList, List.cons_append, List.nil_append, clr, ne_eq, not_false_eq_true, not_true_eq_false, false_and, and_false, true_or, or_true, or_false, false_or, forall_const, Nat.reduceEqDiff, List.length_nil, List.length_cons, Nat.zero_le, Nat.reduceAdd, Nat.reduceLeDiff, false_implies, true_implies, Int.reduceEq, Int.reduceNe, Int.reduceLT, Int.reduceLE, Int.reduceNeg, Int.reduceToNat, Int.toNat_natCast, Nat.reduceLT, and_self, Decidable.not_not, pa_k hg, pa_p hg, pa_kf hg, hn, show ¬ (n : Int) = 0 by omega, e, show ¬ 153 + 2 * g = 0 by omega]
    have ev : (if 0 < (if ((n - 1 : Nat) : Int) < s then ((n - 1 : Nat) : Int) else s) then (if ((n - 1 : Nat) : Int) < s then ((n - 1 : Nat) : Int) else s) else 0) = ((min s.toNat (n - 1) : Nat) : Int) := by
      split <;> split <;> omega
    rw [ev]
    refine ⟨by omega, by omega, ?_⟩
    rw [Int.toNat_natCast]
    exact hq
theorem c_Tadd {x : Int} {n : Nat} (hn : M 172 1 = (n : Int)) (h36 : n < 36) : Ct 1 71 [pR 172, pL x] LC (PC b) M none (PC b) (uM (uM M 173 n x) 172 1 ((n + 1 : Nat) : Int)) := by
  refine Ct_r [some (pR 172), some (pL x), none] (Nat.le_of_ble_eq_true rfl) rfl (fun d hd Q X hq => ?_)
  simp only [s_71_0, s_71_1, s_71_4, s_71_5, s_71_8, s_71_9, s_71_12, s_71_13, s_71_16, s_71_17, s_71_20, s_71_21, s_71_22, s_71_23I, s_71_23, s_71_24, s_71_27, s_71_28, s_71_29, s_71_32, true_and, and_true, sc0, sc1, sc2, sc3, sc4, Option.toList, List.cons_append, List.nil_append, clr, ne_eq, not_false_eq_true, not_true_eq_false, false_and, and_false, true_or, or_true, or_false, false_or, forall_const, Nat.reduceEqDiff, List.length_nil, List.length_cons, Nat.zero_le, Nat.reduceAdd, Nat.reduceLeDiff, false_implies, true_implies, Int.reduceEq, Int.reduceNe, Int.reduceLT, Int.reduceLE, Int.reduceNeg, Int.reduceToNat, Int.toNat_natCast, Nat.reduceLT, and_self, Decidable.not_not, kC_172, pC_172_0, kC_173, hn, show ¬ ((36 : Nat) : Int) ≤ (n : Int) by omega, show ((0 : Int) ≤ (n : Int)) by omega, show ((n : Int) < ((36 : Nat) : Int)) by omega, uM_at, if_true, if_false, w32n (show n < 1000000 by omega), show (1 ≤ 5) by omega, show (5 ≤ 9) by omega]
  simpa using hq
theorem c_forgetAll : Cw 1 30 [pR 29] LC (PC b) M (fun r P' M' => r = none ∧ P' = PC b ∧ M' = uM (uM (uM M 29 4 0) 32 0 0) 32 1 0) := by
  refine Cw_r [some (pR 29), none] (Nat.le_of_ble_eq_true rfl) rfl (fun d hd => ⟨_, _, _, fun Q X hq => ?_, rfl, rfl, rfl⟩)
  simp only [s_30_0, s_30_1, s_30_2, s_30_5, s_30_6, s_30_8, s_30_9, s_30_12, s_30_13, s_30_16, s_30_17, s_30_18, s_30_19, s_30_22, s_30_25, true_and, and_true, sc0, sc1, sc2, sc3, sc4, Option.toList, List.cons_append, List.nil_append, clr, ne_eq, not_false_eq_true, not_true_eq_false, false_and, and_false, true_or, or_true, or_false, false_or, forall_const, Nat.reduceEqDiff, List.length_nil, List.length_cons, Nat.zero_le, Nat.reduceAdd, Nat.reduceLeDiff, false_implies, true_implies, Int.reduceEq, Int.reduceNe, Int.reduceLT, Int.reduceLE, Int.reduceNeg, Int.reduceToNat, Int.toNat_natCast, Nat.reduceLT, and_self, Decidable.not_not, kC_29]
  rw [s_30_7]
  simp only [s_30_0, s_30_1, s_30_2, s_30_5, s_30_6, s_30_8, s_30_9, s_30_12, s_30_13, s_30_16, s_30_17, s_30_18, s_30_19, s_30_22, s_30_25, true_and, and_true, sc0, sc1, sc2, sc3, sc4, Option.toList, List.cons_append, List.nil_append, clr, ne_eq, not_false_eq_true, not_true_eq_false, false_and, and_false, true_or, or_true, or_false, false_or, forall_const, Nat.reduceEqDiff, List.length_nil, List.length_cons, Nat.zero_le, Nat.reduceAdd, Nat.reduceLeDiff, false_implies, true_implies, Int.reduceEq, Int.reduceNe, Int.reduceLT, Int.reduceLE, Int.reduceNeg, Int.reduceToNat, Int.toNat_natCast, Nat.reduceLT, and_self, Decidable.not_not, kC_29, pC_29_2, kC_32, show w32 (0 + 1) = 1 by decide]
  rw [s_30_7]
  simp only [s_30_0, s_30_1, s_30_2, s_30_5, s_30_6, s_30_8, s_30_9, s_30_12, s_30_13, s_30_16, s_30_17, s_30_18, s_30_19, s_30_22, s_30_25, true_and, and_true, sc0, sc1, sc2, sc3, sc4, Option.toList, List.cons_append, List.nil_append, clr, ne_eq, not_false_eq_true, not_true_eq_false, false_and, and_false, true_or, or_true, or_false, false_or, forall_const, Nat.reduceEqDiff, List.length_nil, List.length_cons, Nat.zero_le, Nat.reduceAdd, Nat.reduceLeDiff, false_implies, true_implies, Int.reduceEq, Int.reduceNe, Int.reduceLT, Int.reduceLE, Int.reduceNeg, Int.reduceToNat, Int.toNat_natCast, Nat.reduceLT, and_self, Decidable.not_not, kC_29, pC_29_2, kC_32, show w32 (1 + 1) = 2 by decide]
  rw [s_30_7]
  simp only [s_30_0, s_30_1, s_30_2, s_30_5, s_30_6, s_30_8, s_30_9, s_30_12, s_30_13, s_30_16, s_30_17, s_30_18, s_30_19, s_30_22, s_30_25, true_and, and_true, sc0, sc1, sc2, sc3, sc4, Option.toList, List.cons_append, List.nil_append, clr, ne_eq, not_false_eq_true, not_true_eq_false, false_and, and_false, true_or, or_true, or_false, false_or, forall_const, Nat.reduceEqDiff, List.length_nil, List.length_cons, Nat.zero_le, Nat.reduceAdd, Nat.reduceLeDiff, false_implies, true_implies, Int.reduceEq, Int.reduceNe, Int.reduceLT, Int.reduceLE, Int.reduceNeg, Int.reduceToNat, Int.toNat_natCast, Nat.reduceLT, and_self, Decidable.not_not]
  simpa using hq
theorem c_push {n sz : Nat} {q : Nat} (hq0 : stI q) (hu : ∀ i, i < 12 → q ≠ 33 + 8 * i) (hn : M 29 3 = (n : Int)) (h12 : n < 12) (hs : M 29 4 = (sz : Int)) (hs12 : sz ≤ 12) : Cw 2 69 [pR 29, pR q] LC (PC b) M (fun r P' M' => r = none ∧ P' = PC b ∧ eqS M' (33 + 8 * n) M q ∧ M' 29 3 = (((n + 1) % 12 : Nat) : Int) ∧ M' 29 4 = ((min (sz + 1) 12 : Nat) : Int) ∧ ∀ p, p ≠ 29 → (p < 33 + 8 * n ∨ 41 + 8 * n ≤ p) → M' p = M p) := by
  refine Cw_r [some (pR 29), some (pR q)] (Nat.le_of_ble_eq_true rfl) rfl (fun d hd => ?_)
  obtain ⟨r, P', M', hE, rfl, rfl, h1, h2⟩ := c_take (b := b) (M := M) (un_st h12) hq0 (Ne.symm (hu n h12)) d (by omega)
  have e29 : M' 29 = M 29 := h2 29 (by omega)
  have em : (((n : Int) + 1).tmod 12) = (((n + 1) % 12 : Nat) : Int) := by
    rw [Int.tmod_eq_emod_of_nonneg (by omega)]
    omega
  have ei : (if 12 < ((sz + 1 : Nat) : Int) then 12 else ((sz + 1 : Nat) : Int)) = ((min (sz + 1) 12 : Nat) : Int) := by
    split <;> omega
  refine ⟨none, PC b, uM (uM M' 29 3 (((n + 1) % 12 : Nat) : Int)) 29 4 ((min (sz + 1) 12 : Nat) : Int), fun Q X hq => ?_, rfl, rfl, ?_, ?_, ?_, fun p hp hp2 => ?_⟩
  · simp only [s_69_0, s_69_1, s_69_4, s_69_5, s_69_8, s_69_9, s_69_13, s_69_14, s_69_15, s_69_18, s_69_19, s_69_20, s_69_22, s_69_23, s_69_26, s_69_27, s_69_28, s_69_31, s_69_32, s_69_33, s_69_35, s_69_38, s_69_41, true_and, and_true, sc0, sc1, sc2, sc3, sc4, Option.toList, List.cons_append, List.nil_append, clr, ne_eq, not_false_eq_true, not_true_eq_false, false_and, and_false, true_or, or_true, or_false, false_or, forall_const, Nat.reduceEqDiff, List.length_nil, List.length_cons, Nat.zero_le, Nat.reduceAdd, Nat.reduceLeDiff, false_implies, true_implies, Int.reduceEq, Int.reduceNe, Int.reduceLT, Int.reduceLE, Int.reduceNeg, Int.reduceToNat, Int.toNat_natCast, Nat.reduceLT, and_self, Decidable.not_not, kC_29, kC_30, pC_29_0, hn, un_at h12, show ((0 : Int) ≤ (n : Int)) by omega, show ((n : Int) < ((12 : Nat) : Int)) by omega, show ¬ 33 + 8 * n = 0 by omega]
    refine s_69_10 (Nat.le_of_ble_eq_true rfl) (st_k (un_st h12)) hE ?_
    simp only [s_69_0, s_69_1, s_69_4, s_69_5, s_69_8, s_69_9, s_69_13, s_69_14, s_69_15, s_69_18, s_69_19, s_69_20, s_69_22, s_69_23, s_69_26, s_69_27, s_69_28, s_69_31, s_69_32, s_69_33, s_69_35, s_69_38, s_69_41, true_and, and_true, sc0, sc1, sc2, sc3, sc4, Option.toList, List.cons_append, List.nil_append, clr, ne_eq, not_false_eq_true, not_true_eq_false, false_and, and_false, true_or, or_true, or_false, false_or, forall_const, Nat.reduceEqDiff, List.length_nil, List.length_cons, Nat.zero_le, Nat.reduceAdd, Nat.reduceLeDiff, false_implies, true_implies, Int.reduceEq, Int.reduceNe, Int.reduceLT, Int.reduceLE, Int.reduceNeg, Int.reduceToNat, Int.toNat_natCast, Nat.reduceLT, and_self, Decidable.not_not, kC_29, e29, hn, hs, w32n (show n < 1000000 by omega), w32n (show sz < 1000000 by omega), uM_at, if_true, if_false, show ¬ (4 : Nat) = 3 by decide, em, ei, show (((n + 1 : Nat) : Int)).tmod 12 = (((n + 1) % 12 : Nat) : Int) by rw [Int.tmod_eq_emod_of_nonneg (by omega)]; omega, ei]
    exact hq
  · obtain ⟨a1, a2, a3, a4, a5⟩ := h1
    refine ⟨fun k hk => ?_, fun k hk => ?_, ?_, ?_, ?_⟩
    · rw [uM_ne (by omega), uM_ne (by omega), uM_ne (by omega), uM_ne (by omega)]; exact a1 k hk
    · rw [uM_ne (by omega), uM_ne (by omega), uM_ne (by omega), uM_ne (by omega), uM_ne (by omega), uM_ne (by omega), uM_ne (by omega), uM_ne (by omega), uM_ne (by omega), uM_ne (by omega)]; exact a2 k hk
    · rw [uM_ne (by omega), uM_ne (by omega)]; exact a3
    · rw [uM_ne (by omega), uM_ne (by omega)]; exact a4
    · rw [uM_ne (by omega), uM_ne (by omega)]; exact a5
  · simp [uM_at]
  · simp [uM_at]
  · rw [uM_ne hp, uM_ne hp]
    exact h2 p (by omega)
end
