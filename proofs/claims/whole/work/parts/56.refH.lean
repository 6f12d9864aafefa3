/-! the reference: how hard a field is, fields beside each other -/
section
variable {M : MM} {rd ru r c n x z : Nat} {A B : Nat → Int} {V : GV}
/-- the array x holds the snapshot A -/
def ArR (M : MM) (x : Nat) (A : Nat → Int) : Prop := ∀ j, j < 133 → M x j = A j
theorem RuR_fr {M' : MM} {S T : List Nat} (h : RuR M ru V) (hf : Fr S T M M') (hS : 19 ∉ S) (hT : ru ∉ T) : RuR M' ru V := by
  obtain ⟨h0, k, T0, h1, h2, h3, h4⟩ := h
  refine ⟨h0, k, T0, by rw [hf.1 19 hS]; exact h1, h2, fun j hj => ?_, h4⟩
  rw [hf.2 ru (by omega) hT]; exact h3 j hj
theorem r_hardOf {i f : Nat} (hR : RuR M ru V) (hx : isN x) (hA : ArR M x A) (hV : SnV A B z n) (hz : z ≤ 36) (hi : i < n) (hf : f < z) : Cw 181 191 [pR 1, pR x, pI (i : Int), pI (f : Int)] LR (PR rd ru) M (fun v P' M' => (∃ rd', P' = PR rd' ru) ∧ v = some (pI (hF V A i f)) ∧ Fr [12, 13, 14, 15, 20] [9] M M') := by
  refine Cw_k [some (pR 1), some (pR x), some (pI (i : Int)), some (pI (f : Int)), none, none, none] (Nat.le_of_ble_eq_true rfl) rfl (fun d hd Q X hQ => ?_)
  have hn6 := hV.1
  have hx1 : x ≠ 1 ∧ x ≠ 9 := by rcases hx with rfl | rfl | rfl <;> decide
  have kx := isN_k hx
  have q1 : EqW (w32 (114 + (i : Int))) (((114 + i : Nat) : Int)) := EqW_i <| by unfold w32; omega
  have q2 : EqW (w32 (72 + (f : Int))) (((72 + f : Nat) : Int)) := EqW_i <| by unfold w32; omega
  have q3 : EqW (w32 (36 + (f : Int))) (((36 + f : Nat) : Int)) := EqW_i <| by unfold w32; omega
  have b1 : (0 : Int) ≤ ((114 + i : Nat) : Int) := by omega
  have b2 : ((114 + i : Nat) : Int) < ((133 : Nat) : Int) := by omega
  have b3 : (0 : Int) ≤ ((72 + f : Nat) : Int) := by omega
  have b4 : ((72 + f : Nat) : Int) < ((133 : Nat) : Int) := by omega
  have b5 : (0 : Int) ≤ ((36 + f : Nat) : Int) := by omega
  have b6 : ((36 + f : Nat) : Int) < ((133 : Nat) : Int) := by omega
  have b7 : (0 : Int) ≤ (f : Int) := by omega
  have b8 : (f : Int) < ((133 : Nat) : Int) := by omega
  have a1 := hA (114 + i) (by omega)
  have a2 := hA (72 + f) (by omega)
  have a3 := hA (36 + f) (by omega)
  have a4 := hA f (by omega)
  have a5 := hA 132 (by omega)
  have b9 : (132 : Int) < ((133 : Nat) : Int) := by decide
  have s0 : (0 : Int) < ((6 : Nat) : Int) := by decide
  have s1 : (1 : Int) < ((6 : Nat) : Int) := by decide
  have s2 : (2 : Int) < ((6 : Nat) : Int) := by decide
  have s3 : (3 : Int) < ((6 : Nat) : Int) := by decide
  have s4 : (4 : Int) < ((6 : Nat) : Int) := by decide
  have s5 : (5 : Int) < ((6 : Nat) : Int) := by decide
  obtain ⟨hru, k, T, r1, r2, r3, r4⟩ := hR
  have hru0 : ¬ ru = 0 := by omega
  have fin : ∀ (v : Int) (P' : PM) (M' : MM) (l4 l5 : Option PV), (∃ rd', P' = PR rd' ru) → v = V (envA A i f (A (72 + f))) → Fr [12, 13, 14, 15, 20] [9] M M' → wpB (Ev d) 191 Q X 133 [some (pR 1), some (pR x), some (pI (i : Int)), some (pI (f : Int)), l4, l5, some (pI v)] [] (kz LR) P' M' := by
    intro v P' M' l4 l5 h1 h2 h3
    simp only [s_191_0, s_191_1, s_191_3, s_191_4, s_191_5, s_191_6, s_191_7, s_191_8, s_191_9, s_191_10, s_191_11, s_191_12, s_191_14, s_191_15, s_191_17, s_191_18, s_191_19, s_191_20, s_191_22, s_191_24, s_191_25, s_191_27, s_191_28, s_191_29, s_191_30, s_191_31, s_191_32, s_191_33, s_191_34, s_191_35, s_191_37, s_191_38, s_191_41, s_191_44, s_191_45, s_191_48, s_191_49, s_191_50, s_191_51, s_191_52, s_191_53, s_191_54, s_191_57, s_191_58, s_191_60, s_191_61, s_191_62, s_191_65, s_191_66, s_191_68, s_191_69, s_191_70, s_191_73, s_191_74, s_191_75, s_191_77, s_191_78, s_191_79, s_191_80, s_191_81, s_191_82, s_191_85, s_191_86, s_191_87, s_191_90, s_191_91, s_191_93, s_191_94, s_191_95, s_191_96, s_191_99, s_191_100, s_191_101, s_191_102, s_191_103, s_191_104, s_191_107, s_191_108, s_191_111, s_191_116, s_191_117, s_191_118, s_191_121, s_191_122, s_191_126, s_191_128, s_191_129, s_191_130, s_191_133, s_191_134, s_191_136, s_191_138, s_191_141, s_191_144, true_and, and_true, sc0, sc1, sc2, sc3, sc4, Option.toList, List.cons_append, List.nil_append, clr, ne_eq, not_false_eq_true, not_true_eq_false, false_and, and_false, true_or, or_true, or_false, false_or, forall_const, Nat.reduceEqDiff, List.length_nil, List.length_cons, Nat.zero_le, Nat.reduceAdd, Nat.reduceLeDiff, false_implies, true_implies, Int.reduceEq, Int.reduceNe, Int.reduceLT, Int.reduceLE, Int.reduceNeg, Int.reduceToNat, Int.toNat_natCast, Nat.reduceLT, and_self, Decidable.not_not, kR_1, kR_2, kR_3, kR_4, kR_5, kR_6, kR_7, kR_8, kR_9, kR_10, kR_11, kR_12, kR_13, kR_14, kR_15, kR_16, kR_17, kR_18, kR_19, kR_20, kR_21, kR_22, kR_23, pR_0, pR_5, pR_6, pR_8, pR_11, pR_16, pR_17, pR_18, pR_21, pR_22, pR_23, pR_24, pR_26, pR_28, pR_29, pR_30, pR_33, pR_34, pR_35, pR_38, pR_41, pR_42, pR_43]
    refine hQ _ _ _ ⟨h1, ?_, h3⟩
    rw [h2, hF_at (show f < 36 by omega)]
    rfl
  have hpl : EqW (w32 (w32 (bAnd (bShr (A (114 + i)) (A f)) 1 * w32 (1 - A (72 + f))) * w32 (1 + A f))) (plainV (envA A i f (A (72 + f)))) := EqW_i <| rfl
  by_cases c0 : k = 0
  · have e : (k : Int) ≤ 0 := by omega
    have hVp : V = plainV := by
      unfold gRead at r4
      rw [if_pos c0] at r4
      exact (Sum.inr.inj r4).symm
    simp only [s_191_0, s_191_1, s_191_3, s_191_4, s_191_5, s_191_6, s_191_7, s_191_8, s_191_9, s_191_10, s_191_11, s_191_12, s_191_14, s_191_15, s_191_17, s_191_18, s_191_19, s_191_20, s_191_22, s_191_24, s_191_25, s_191_27, s_191_28, s_191_29, s_191_30, s_191_31, s_191_32, s_191_33, s_191_34, s_191_35, s_191_37, s_191_38, s_191_41, s_191_44, s_191_45, s_191_48, s_191_49, s_191_50, s_191_51, s_191_52, s_191_53, s_191_54, s_191_57, s_191_58, s_191_60, s_191_61, s_191_62, s_191_65, s_191_66, s_191_68, s_191_69, s_191_70, s_191_73, s_191_74, s_191_75, s_191_77, s_191_78, s_191_79, s_191_80, s_191_81, s_191_82, s_191_85, s_191_86, s_191_87, s_191_90, s_191_91, s_191_93, s_191_94, s_191_95, s_191_96, s_191_99, s_191_100, s_191_101, s_191_102, s_191_103, s_191_104, s_191_107, s_191_108, s_191_111, s_191_116, s_191_117, s_191_118, s_191_121, s_191_122, s_191_126, s_191_128, s_191_129, s_191_130, s_191_134, s_191_136, s_191_138, s_191_141, s_191_144, true_and, and_true, sc0, sc1, sc2, sc3, sc4, Option.toList, List.cons_append, List.nil_append, clr, ne_eq, not_false_eq_true, not_true_eq_false, false_and, and_false, true_or, or_true, or_false, false_or, forall_const, Nat.reduceEqDiff, List.length_nil, List.length_cons, Nat.zero_le, Nat.reduceAdd, Nat.reduceLeDiff, false_implies, true_implies, Int.reduceEq, Int.reduceNe, Int.reduceLT, Int.reduceLE, Int.reduceNeg, Int.reduceToNat, Int.toNat_natCast, Nat.reduceLT, and_self, Decidable.not_not, kR_1, kR_2, kR_3, kR_4, kR_5, kR_6, kR_7, kR_8, kR_9, kR_10, kR_11, kR_12, kR_13, kR_14, kR_15, kR_16, kR_17, kR_18, kR_19, kR_20, kR_21, kR_22, kR_23, pR_0, pR_5, pR_6, pR_8, pR_11, pR_16, pR_17, pR_18, pR_21, pR_22, pR_23, pR_24, pR_26, pR_28, pR_29, pR_30, pR_33, pR_34, pR_35, pR_38, pR_41, pR_42, pR_43, kx, (EqW_o q1), (EqW_o q2), b1, b2, b3, b4, b7, b8, a1, a2, a4, (EqW_o hpl), r1, e]
    exact fin _ _ _ _ _ ⟨rd, rfl⟩ (by rw [hVp]) Fr_refl
  · have e : ¬ (k : Int) ≤ 0 := by omega
    have x9 : ¬ x = 9 := hx1.2
    simp only [s_191_0, s_191_1, s_191_3, s_191_4, s_191_5, s_191_6, s_191_7, s_191_8, s_191_9, s_191_10, s_191_11, s_191_12, s_191_14, s_191_15, s_191_17, s_191_18, s_191_19, s_191_20, s_191_22, s_191_24, s_191_25, s_191_27, s_191_28, s_191_29, s_191_30, s_191_31, s_191_32, s_191_33, s_191_34, s_191_35, s_191_37, s_191_38, s_191_41, s_191_44, s_191_45, s_191_48, s_191_49, s_191_50, s_191_51, s_191_52, s_191_53, s_191_54, s_191_57, s_191_58, s_191_60, s_191_61, s_191_62, s_191_65, s_191_66, s_191_68, s_191_69, s_191_70, s_191_73, s_191_74, s_191_75, s_191_77, s_191_78, s_191_79, s_191_80, s_191_81, s_191_82, s_191_85, s_191_86, s_191_87, s_191_90, s_191_91, s_191_93, s_191_94, s_191_95, s_191_96, s_191_99, s_191_100, s_191_101, s_191_102, s_191_103, s_191_104, s_191_107, s_191_108, s_191_111, s_191_116, s_191_117, s_191_118, s_191_121, s_191_122, s_191_126, s_191_128, s_191_129, s_191_130, s_191_134, s_191_136, s_191_138, s_191_141, s_191_144, true_and, and_true, sc0, sc1, sc2, sc3, sc4, Option.toList, List.cons_append, List.nil_append, clr, ne_eq, not_false_eq_true, not_true_eq_false, false_and, and_false, true_or, or_true, or_false, false_or, forall_const, Nat.reduceEqDiff, List.length_nil, List.length_cons, Nat.zero_le, Nat.reduceAdd, Nat.reduceLeDiff, false_implies, true_implies, Int.reduceEq, Int.reduceNe, Int.reduceLT, Int.reduceLE, Int.reduceNeg, Int.reduceToNat, Int.toNat_natCast, Nat.reduceLT, and_self, Decidable.not_not, kR_1, kR_2, kR_3, kR_4, kR_5, kR_6, kR_7, kR_8, kR_9, kR_10, kR_11, kR_12, kR_13, kR_14, kR_15, kR_16, kR_17, kR_18, kR_19, kR_20, kR_21, kR_22, kR_23, pR_0, pR_5, pR_6, pR_8, pR_11, pR_16, pR_17, pR_18, pR_21, pR_22, pR_23, pR_24, pR_26, pR_28, pR_29, pR_30, pR_33, pR_34, pR_35, pR_38, pR_41, pR_42, pR_43, kx, (EqW_o q1), (EqW_o q2), (EqW_o q3), b1, b2, b3, b4, b5, b6, b7, b8, b9, a1, a2, a3, a4, a5, (EqW_o hpl), r1, e, s0, s1, s2, s3, s4, s5, uM_at, if_true, if_false, x9, hru0]
    generalize hN : uM (uM (uM (uM (uM (uM M 9 0 (A f)) 9 1 (bAnd (bShr (A (114 + i)) (A f)) 1)) 9 2 (A (72 + f))) 9 3 (A (36 + f))) 9 4 ((A 132).tmod 7)) 9 5 (i : Int) = N
    have f0 : Fr [12, 13, 14, 15, 20] [9] M N := by
      rw [← hN]
      exact Fr_o (Fr_o (Fr_o (Fr_o (Fr_o (Fr_o Fr_refl (by decide) (by decide)) (by decide) (by decide)) (by decide) (by decide)) (by decide) (by decide)) (by decide) (by decide)) (by decide) (by decide)
    have n19 : N 1 19 = (k : Int) := by rw [f0.1 19 (by decide)]; exact r1
    refine s_191_113 (Nat.le_of_ble_eq_true rfl) kR_1 (r_begin (s := 0) (x := ru) hru0 d (by omega)) ?_
    simp only [s_191_0, s_191_1, s_191_3, s_191_4, s_191_5, s_191_6, s_191_7, s_191_8, s_191_9, s_191_10, s_191_11, s_191_12, s_191_14, s_191_15, s_191_17, s_191_18, s_191_19, s_191_20, s_191_22, s_191_24, s_191_25, s_191_27, s_191_28, s_191_29, s_191_30, s_191_31, s_191_32, s_191_33, s_191_34, s_191_35, s_191_37, s_191_38, s_191_41, s_191_44, s_191_45, s_191_48, s_191_49, s_191_50, s_191_51, s_191_52, s_191_53, s_191_54, s_191_57, s_191_58, s_191_60, s_191_61, s_191_62, s_191_65, s_191_66, s_191_68, s_191_69, s_191_70, s_191_73, s_191_74, s_191_75, s_191_77, s_191_78, s_191_79, s_191_80, s_191_81, s_191_82, s_191_85, s_191_86, s_191_87, s_191_90, s_191_91, s_191_93, s_191_94, s_191_95, s_191_96, s_191_99, s_191_100, s_191_101, s_191_102, s_191_103, s_191_104, s_191_107, s_191_108, s_191_111, s_191_116, s_191_117, s_191_118, s_191_121, s_191_122, s_191_126, s_191_128, s_191_129, s_191_130, s_191_134, s_191_136, s_191_138, s_191_141, s_191_144, true_and, and_true, sc0, sc1, sc2, sc3, sc4, Option.toList, List.cons_append, List.nil_append, clr, ne_eq, not_false_eq_true, not_true_eq_false, false_and, and_false, true_or, or_true, or_false, false_or, forall_const, Nat.reduceEqDiff, List.length_nil, List.length_cons, Nat.zero_le, Nat.reduceAdd, Nat.reduceLeDiff, false_implies, true_implies, Int.reduceEq, Int.reduceNe, Int.reduceLT, Int.reduceLE, Int.reduceNeg, Int.reduceToNat, Int.toNat_natCast, Nat.reduceLT, and_self, Decidable.not_not, kR_1, kR_2, kR_3, kR_4, kR_5, kR_6, kR_7, kR_8, kR_9, kR_10, kR_11, kR_12, kR_13, kR_14, kR_15, kR_16, kR_17, kR_18, kR_19, kR_20, kR_21, kR_22, kR_23, pR_0, pR_5, pR_6, pR_8, pR_11, pR_16, pR_17, pR_18, pR_21, pR_22, pR_23, pR_24, pR_26, pR_28, pR_29, pR_30, pR_33, pR_34, pR_35, pR_38, pR_41, pR_42, pR_43]
    generalize hK : uM (uM (uM (uM (uM N 1 12 (k : Int)) 1 13 40) 1 14 0) 1 15 (-1)) 1 20 1 = K
    have f1 : Fr [12, 13, 14, 15, 20] [9] M K := by
      rw [← hK]
      exact Fr_1 (Fr_1 (Fr_1 (Fr_1 (Fr_1 f0 (by decide)) (by decide)) (by decide)) (by decide)) (by decide)
    have k12 : K 1 12 = (k : Int) := by rw [← hK]; simp [uM_at]
    have k13 : K 1 13 = ((40 : Nat) : Int) := by rw [← hK]; simp [uM_at]
    have k14 : K 1 14 = 0 := by rw [← hK]; simp [uM_at]
    have k15 : K 1 15 = -1 := by rw [← hK]; simp [uM_at]
    have k20 : K 1 20 = 1 := by rw [← hK]; simp [uM_at]
    have k9 : K 9 = N 9 := by rw [← hK, uM_ne (by decide), uM_ne (by decide), uM_ne (by decide), uM_ne (by decide), uM_ne (by decide)]
    have hRd : Rdg K ru T (min k 40) := ⟨Or.inr hru, k, 40, k12, k13, rfl, by omega, by decide, by rw [if_neg (by omega)]; omega, fun j hj => by
      rw [f1.2 ru (by omega) (by simp; omega)]
      exact ⟨(r3 j (by omega)).1.symm, (r3 j (by omega)).2⟩⟩
    obtain ⟨v, P', K2, hE, hP, hx2⟩ := r_heldTop (ru := ru) hRd k15 k14 (by omega) d (by omega)
    subst hP
    refine s_191_123 (Nat.le_of_ble_eq_true rfl) kR_1 hE ?_
    rcases hx2 with ⟨w, a, hr, _⟩ | ⟨v0, p, hr, hu, hK2⟩
    · rw [gRead_l c0 hr] at r4; cases r4
    · have hg := gRead_r c0 hr
      rw [r4] at hg
      by_cases c2 : p < k
      · rw [if_pos c2] at hg; cases hg
      rw [if_neg c2] at hg
      obtain rfl := Sum.inr.inj hg
      subst hu; subst hK2
      have he : eR K = envA A i f (A (72 + f)) := by
        funext j
        unfold eR envA
        rw [k20, if_neg (by decide), k9, ← hN]
        by_cases j0 : j = 0
        · subst j0; simp [uM_at]
        by_cases j1 : j = 1
        · subst j1; simp [uM_at]
        by_cases j2 : j = 2
        · subst j2; simp [uM_at]
        by_cases j3 : j = 3
        · subst j3; simp [uM_at]
        by_cases j4 : j = 4
        · subst j4; simp [uM_at]
        · rw [if_neg j0, if_neg j1, if_neg j2, if_neg j3, if_neg j4, Nat.min_eq_right (by omega)]
          simp [uM_at]
      simp only [s_191_0, s_191_1, s_191_3, s_191_4, s_191_5, s_191_6, s_191_7, s_191_8, s_191_9, s_191_10, s_191_11, s_191_12, s_191_14, s_191_15, s_191_17, s_191_18, s_191_19, s_191_20, s_191_22, s_191_24, s_191_25, s_191_27, s_191_28, s_191_29, s_191_30, s_191_31, s_191_32, s_191_33, s_191_34, s_191_35, s_191_37, s_191_38, s_191_41, s_191_44, s_191_45, s_191_48, s_191_49, s_191_50, s_191_51, s_191_52, s_191_53, s_191_54, s_191_57, s_191_58, s_191_60, s_191_61, s_191_62, s_191_65, s_191_66, s_191_68, s_191_69, s_191_70, s_191_73, s_191_74, s_191_75, s_191_77, s_191_78, s_191_79, s_191_80, s_191_81, s_191_82, s_191_85, s_191_86, s_191_87, s_191_90, s_191_91, s_191_93, s_191_94, s_191_95, s_191_96, s_191_99, s_191_100, s_191_101, s_191_102, s_191_103, s_191_104, s_191_107, s_191_108, s_191_111, s_191_116, s_191_117, s_191_118, s_191_121, s_191_122, s_191_126, s_191_128, s_191_129, s_191_130, s_191_134, s_191_136, s_191_138, s_191_141, s_191_144, true_and, and_true, sc0, sc1, sc2, sc3, sc4, Option.toList, List.cons_append, List.nil_append, clr, ne_eq, not_false_eq_true, not_true_eq_false, false_and, and_false, true_or, or_true, or_false, false_or, forall_const, Nat.reduceEqDiff, List.length_nil, List.length_cons, Nat.zero_le, Nat.reduceAdd, Nat.reduceLeDiff, false_implies, true_implies, Int.reduceEq, Int.reduceNe, Int.reduceLT, Int.reduceLE, Int.reduceNeg, Int.reduceToNat, Int.toNat_natCast, Nat.reduceLT, and_self, Decidable.not_not, kR_1, kR_2, kR_3, kR_4, kR_5, kR_6, kR_7, kR_8, kR_9, kR_10, kR_11, kR_12, kR_13, kR_14, kR_15, kR_16, kR_17, kR_18, kR_19, kR_20, kR_21, kR_22, kR_23, pR_0, pR_5, pR_6, pR_8, pR_11, pR_16, pR_17, pR_18, pR_21, pR_22, pR_23, pR_24, pR_26, pR_28, pR_29, pR_30, pR_33, pR_34, pR_35, pR_38, pR_41, pR_42, pR_43]
      exact fin _ _ _ _ _ ⟨ru, rfl⟩ (by rw [he]) (Fr_1 (Fr_1 f1 (by decide)) (by decide))
theorem r_layHardness {i : Nat} (h : RD M r c n) (hz : z = r * c) (hR : RuR M ru V) (hx : isN x) (hA : ArR M x A) (hV : SnV A B z n) (hi : i < n) : Cw 182 190 [pR 1, pR x, pI (i : Int)] LR (PR rd ru) M (fun v P' M' => (∃ rd', P' = PR rd' ru) ∧ v = none ∧ Fr [12, 13, 14, 15, 20] [9, 10] M M' ∧ ∀ f, f < z → M' 10 f = hF V A i f) := by
  refine Cw_k [some (pR 1), some (pR x), some (pI (i : Int)), none] (Nat.le_of_ble_eq_true rfl) rfl (fun d hd Q X hQ => ?_)
  have hz36 : z ≤ 36 := by have := RD_36 h; omega
  have hx1 : x ≠ 1 ∧ x ≠ 9 ∧ x ≠ 10 := by rcases hx with rfl | rfl | rfl <;> decide
  have hru1 : ru ≠ 1 ∧ ru ≠ 9 ∧ ru ≠ 10 := by rcases hR.1 with rfl | rfl <;> decide
  simp only [s_190_0, s_190_1, s_190_3, s_190_7, s_190_10, s_190_11, s_190_14, s_190_15, s_190_16, s_190_17, s_190_18, s_190_22, s_190_23, s_190_26, s_190_29, true_and, and_true, sc0, sc1, sc2, sc3, sc4, Option.toList, List.cons_append, List.nil_append, clr, ne_eq, not_false_eq_true, not_true_eq_false, false_and, and_false, true_or, or_true, or_false, false_or, forall_const, Nat.reduceEqDiff, List.length_nil, List.length_cons, Nat.zero_le, Nat.reduceAdd, Nat.reduceLeDiff, false_implies, true_implies, Int.reduceEq, Int.reduceNe, Int.reduceLT, Int.reduceLE, Int.reduceNeg, Int.reduceToNat, Int.toNat_natCast, Nat.reduceLT, and_self, Decidable.not_not, kR_1, kR_2, kR_3, kR_4, kR_5, kR_6, kR_7, kR_8, kR_9, kR_10, kR_11, kR_12, kR_13, kR_14, kR_15, kR_16, kR_17, kR_18, kR_19, kR_20, kR_21, kR_22, kR_23, pR_0, pR_5, pR_6, pR_8, pR_11, pR_16, pR_17, pR_18, pR_21, pR_22, pR_23, pR_24, pR_26, pR_28, pR_29, pR_30, pR_33, pR_34, pR_35, pR_38, pR_41, pR_42, pR_43]
  refine lup (α := Nat × MM) (I := fun k x => Fr [12, 13, 14, 15, 20] [9, 10] M x.2 ∧ ∀ f, f < k → x.2 10 f = hF V A i f) (G := fun k y => wpB (Ev d) 190 Q X 2 [some (pR 1), some (pR x), some (pI (i : Int)), some (pI (k : Int))] [] (kz LR) (PR y.1 ru) y.2) z (fun y hy => ?_) (fun k y hk hy ih => ?_) 0 (rd, M) (Nat.zero_le _) ⟨Fr_refl, fun f hf => absurd hf (Nat.not_lt_zero _)⟩
  · obtain ⟨rd1, N⟩ := y
    obtain ⟨a1, a2⟩ := hy
    dsimp only at a1 a2 ⊢
    have hfi := r_fields (rd := rd1) (ru := ru) (RD_fr h a1 (by decide))
    rw [← hz] at hfi
    rw [s_190_2]
    simp only [s_190_0, s_190_1, s_190_3, s_190_7, s_190_10, s_190_11, s_190_14, s_190_15, s_190_16, s_190_17, s_190_18, s_190_22, s_190_23, s_190_26, s_190_29, true_and, and_true, sc0, sc1, sc2, sc3, sc4, Option.toList, List.cons_append, List.nil_append, clr, ne_eq, not_false_eq_true, not_true_eq_false, false_and, and_false, true_or, or_true, or_false, false_or, forall_const, Nat.reduceEqDiff, List.length_nil, List.length_cons, Nat.zero_le, Nat.reduceAdd, Nat.reduceLeDiff, false_implies, true_implies, Int.reduceEq, Int.reduceNe, Int.reduceLT, Int.reduceLE, Int.reduceNeg, Int.reduceToNat, Int.toNat_natCast, Nat.reduceLT, and_self, Decidable.not_not, kR_1, kR_2, kR_3, kR_4, kR_5, kR_6, kR_7, kR_8, kR_9, kR_10, kR_11, kR_12, kR_13, kR_14, kR_15, kR_16, kR_17, kR_18, kR_19, kR_20, kR_21, kR_22, kR_23, pR_0, pR_5, pR_6, pR_8, pR_11, pR_16, pR_17, pR_18, pR_21, pR_22, pR_23, pR_24, pR_26, pR_28, pR_29, pR_30, pR_33, pR_34, pR_35, pR_38, pR_41, pR_42, pR_43]
    refine s_190_4 (Nat.le_of_ble_eq_true rfl) kR_1 (hfi d (by omega)) ?_
    simp only [s_190_0, s_190_1, s_190_3, s_190_7, s_190_10, s_190_11, s_190_14, s_190_15, s_190_16, s_190_17, s_190_18, s_190_22, s_190_23, s_190_26, s_190_29, true_and, and_true, sc0, sc1, sc2, sc3, sc4, Option.toList, List.cons_append, List.nil_append, clr, ne_eq, not_false_eq_true, not_true_eq_false, false_and, and_false, true_or, or_true, or_false, false_or, forall_const, Nat.reduceEqDiff, List.length_nil, List.length_cons, Nat.zero_le, Nat.reduceAdd, Nat.reduceLeDiff, false_implies, true_implies, Int.reduceEq, Int.reduceNe, Int.reduceLT, Int.reduceLE, Int.reduceNeg, Int.reduceToNat, Int.toNat_natCast, Nat.reduceLT, and_self, Decidable.not_not, kR_1, kR_2, kR_3, kR_4, kR_5, kR_6, kR_7, kR_8, kR_9, kR_10, kR_11, kR_12, kR_13, kR_14, kR_15, kR_16, kR_17, kR_18, kR_19, kR_20, kR_21, kR_22, kR_23, pR_0, pR_5, pR_6, pR_8, pR_11, pR_16, pR_17, pR_18, pR_21, pR_22, pR_23, pR_24, pR_26, pR_28, pR_29, pR_30, pR_33, pR_34, pR_35, pR_38, pR_41, pR_42, pR_43, Int.le_refl]
    exact hQ _ _ _ ⟨⟨rd1, rfl⟩, rfl, a1, a2⟩
  · obtain ⟨rd1, N⟩ := y
    obtain ⟨a1, a2⟩ := hy
    dsimp only at a1 a2 ⊢
    have hfi := r_fields (rd := rd1) (ru := ru) (RD_fr h a1 (by decide))
    rw [← hz] at hfi
    have e0 : ¬ (z : Int) ≤ (k : Int) := by omega
    have b0 : (0 : Int) ≤ (k : Int) := by omega
    have b1 : (k : Int) < ((36 : Nat) : Int) := by omega
    have en := EqW_i (w32n (show k < 1000000 by omega))
    have hAN : ArR N x A := fun j hj => by rw [a1.2 x hx1.1 (by simp; omega)]; exact hA j hj
    obtain ⟨v, P', N2, hE, ⟨rd2, rfl⟩, rfl, hF2⟩ := r_hardOf (rd := rd1) (RuR_fr hR a1 (by decide) (by simp; omega)) hx hAN hV hz36 hi hk d (by omega)
    rw [s_190_2]
    simp only [s_190_0, s_190_1, s_190_3, s_190_7, s_190_10, s_190_11, s_190_14, s_190_15, s_190_16, s_190_17, s_190_18, s_190_22, s_190_23, s_190_26, s_190_29, true_and, and_true, sc0, sc1, sc2, sc3, sc4, Option.toList, List.cons_append, List.nil_append, clr, ne_eq, not_false_eq_true, not_true_eq_false, false_and, and_false, true_or, or_true, or_false, false_or, forall_const, Nat.reduceEqDiff, List.length_nil, List.length_cons, Nat.zero_le, Nat.reduceAdd, Nat.reduceLeDiff, false_implies, true_implies, Int.reduceEq, Int.reduceNe, Int.reduceLT, Int.reduceLE, Int.reduceNeg, Int.reduceToNat, Int.toNat_natCast, Nat.reduceLT, and_self, Decidable.not_not, kR_1, kR_2, kR_3, kR_4, kR_5, kR_6, kR_7, kR_8, kR_9, kR_10, kR_11, kR_12, kR_13, kR_14, kR_15, kR_16, kR_17, kR_18, kR_19, kR_20, kR_21, kR_22, kR_23, pR_0, pR_5, pR_6, pR_8, pR_11, pR_16, pR_17, pR_18, pR_21, pR_22, pR_23, pR_24, pR_26, pR_28, pR_29, pR_30, pR_33, pR_34, pR_35, pR_38, pR_41, pR_42, pR_43]
    refine s_190_4 (Nat.le_of_ble_eq_true rfl) kR_1 (hfi d (by omega)) ?_
    simp only [s_190_0, s_190_1, s_190_3, s_190_7, s_190_10, s_190_11, s_190_14, s_190_15, s_190_16, s_190_17, s_190_18, s_190_22, s_190_23, s_190_26, s_190_29, true_and, and_true, sc0, sc1, sc2, sc3, sc4, Option.toList, List.cons_append, List.nil_append, clr, ne_eq, not_false_eq_true, not_true_eq_false, false_and, and_false, true_or, or_true, or_false, false_or, forall_const, Nat.reduceEqDiff, List.length_nil, List.length_cons, Nat.zero_le, Nat.reduceAdd, Nat.reduceLeDiff, false_implies, true_implies, Int.reduceEq, Int.reduceNe, Int.reduceLT, Int.reduceLE, Int.reduceNeg, Int.reduceToNat, Int.toNat_natCast, Nat.reduceLT, and_self, Decidable.not_not, kR_1, kR_2, kR_3, kR_4, kR_5, kR_6, kR_7, kR_8, kR_9, kR_10, kR_11, kR_12, kR_13, kR_14, kR_15, kR_16, kR_17, kR_18, kR_19, kR_20, kR_21, kR_22, kR_23, pR_0, pR_5, pR_6, pR_8, pR_11, pR_16, pR_17, pR_18, pR_21, pR_22, pR_23, pR_24, pR_26, pR_28, pR_29, pR_30, pR_33, pR_34, pR_35, pR_38, pR_41, pR_42, pR_43, e0]
    refine s_190_19 (Nat.le_of_ble_eq_true rfl) kR_1 hE ?_
    simp only [s_190_0, s_190_1, s_190_3, s_190_7, s_190_10, s_190_11, s_190_14, s_190_15, s_190_16, s_190_17, s_190_18, s_190_22, s_190_23, s_190_26, s_190_29, true_and, and_true, sc0, sc1, sc2, sc3, sc4, Option.toList, List.cons_append, List.nil_append, clr, ne_eq, not_false_eq_true, not_true_eq_false, false_and, and_false, true_or, or_true, or_false, false_or, forall_const, Nat.reduceEqDiff, List.length_nil, List.length_cons, Nat.zero_le, Nat.reduceAdd, Nat.reduceLeDiff, false_implies, true_implies, Int.reduceEq, Int.reduceNe, Int.reduceLT, Int.reduceLE, Int.reduceNeg, Int.reduceToNat, Int.toNat_natCast, Nat.reduceLT, and_self, Decidable.not_not, kR_1, kR_2, kR_3, kR_4, kR_5, kR_6, kR_7, kR_8, kR_9, kR_10, kR_11, kR_12, kR_13, kR_14, kR_15, kR_16, kR_17, kR_18, kR_19, kR_20, kR_21, kR_22, kR_23, pR_0, pR_5, pR_6, pR_8, pR_11, pR_16, pR_17, pR_18, pR_21, pR_22, pR_23, pR_24, pR_26, pR_28, pR_29, pR_30, pR_33, pR_34, pR_35, pR_38, pR_41, pR_42, pR_43, b0, b1, (EqW_o en)]
    refine ih (rd2, _) ⟨Fr_o (Fr_trans a1 (Fr_mono hF2 (by simp) (by simp))) (by decide) (by simp), fun f hf => ?_⟩
    show uM N2 10 k _ 10 f = _
    rw [uM_at, if_pos rfl]
    by_cases e : f = k
    · subst e; rw [if_pos rfl]
    · rw [if_neg e, hF2.2 10 (by decide) (by decide)]; exact a2 f (by omega)
def sg4 (h : Nat) : Nat := if h = 0 then 0 else if h = 1 then 2 else if h = 2 then 3 else 1
theorem r_beside {f h : Nat} (hD : RD M r c n) (hz : z = r * c) (hf : f < z) (hh : h < 4) : Ct 2 193 [pR 1, pI (f : Int), pI (h : Int)] LR (PR rd ru) M (some (pI (bsd c z f (sg4 h)))) (PR rd ru) M := by
  refine Ct_r [some (pR 1), some (pI (f : Int)), some (pI (h : Int)), none, none] (Nat.le_of_ble_eq_true rfl) rfl (fun d hd Q X hq => ?_)
  have hc1 := hD.2.2.2.2.2.1
  have hc6 := hD.2.2.2.2.2.2.1
  have hr1 := hD.2.2.2.1
  have hr6 := hD.2.2.2.2.1
  have hz36 := RD_36 hD
  have hdm : c * (f / c) + f % c = f := Nat.div_add_mod f c
  have hml : f % c < c := Nat.mod_lt _ (by omega)
  have hdr : f / c < r := (Nat.div_lt_iff_lt_mul (by omega)).mpr (by omega)
  have e1 : EqW (w32 ((f : Int).tdiv (c : Int))) (((f / c : Nat) : Int)) := EqW_i <| by
    rw [Int.tdiv_eq_ediv_of_nonneg (by omega), ← Int.natCast_ediv]
    have h9 : f / c < r := hdr
    generalize f / c = y at h9 ⊢
    exact w32s (by omega)
  have e2 : (f : Int).tmod (c : Int) = ((f % c : Nat) : Int) := by
    rw [Int.tmod_eq_emod_of_nonneg (by omega)]; rfl
  have ne : ¬ (c : Int) = 0 := by omega
  have er : EqW (w32 ((r : Int) - 1)) ((r : Int) - 1) := EqW_i <| w32s (by omega)
  have ec : EqW (w32 ((c : Int) - 1)) ((c : Int) - 1) := EqW_i <| w32s (by omega)
  have hin := fun v hi => r_in (L := LR) (P := PR rd ru) (M := M) (v := v) (lo := 0) (hi := hi)
  generalize hq1 : f / c = fr at *
  generalize hq2 : f % c = fc at *
  have last : ∀ (rr cc : Int), -1 ≤ rr → rr ≤ 6 → -1 ≤ cc → cc ≤ 6 → (if (0 ≤ rr ∧ rr ≤ (r : Int) - 1) ∧ (0 ≤ cc ∧ cc ≤ (c : Int) - 1) then (c : Int) * rr + cc else -1) = bsd c z f (sg4 h) → wpB (Ev d) 193 Q X 54 [some (pR 1), some (pI (f : Int)), some (pI (h : Int)), some (pI rr), some (pI cc)] [] (kz LR) (PR rd ru) M := by
    intro rr cc h1 h2 h3 h4 hv
    rw [← hv] at hq
    simp only [s_193_0, s_193_1, s_193_2, s_193_5, s_193_6, s_193_7, s_193_10, s_193_11, s_193_14, s_193_15, s_193_16, s_193_19, s_193_20, s_193_23, s_193_24, s_193_25, s_193_26, s_193_27, s_193_28, s_193_31, s_193_32, s_193_33, s_193_34, s_193_37, s_193_38, s_193_41, s_193_42, s_193_43, s_193_46, s_193_47, s_193_50, s_193_51, s_193_52, s_193_54, s_193_55, s_193_56, s_193_57, s_193_60, s_193_61, s_193_65, s_193_68, s_193_70, s_193_71, s_193_72, s_193_75, s_193_76, s_193_80, s_193_83, s_193_84, s_193_87, s_193_88, s_193_89, s_193_91, s_193_92, s_193_95, s_193_96, true_and, and_true, sc0, sc1, sc2, sc3, sc4, Option.toList, List.cons_append, List.nil_append, clr, ne_eq, not_false_eq_true, not_true_eq_false, false_and, and_false, true_or, or_true, or_false, false_or, forall_const, Nat.reduceEqDiff, List.length_nil, List.length_cons, Nat.zero_le, Nat.reduceAdd, Nat.reduceLeDiff, false_implies, true_implies, Int.reduceEq, Int.reduceNe, Int.reduceLT, Int.reduceLE, Int.reduceNeg, Int.reduceToNat, Int.toNat_natCast, Nat.reduceLT, and_self, Decidable.not_not, kR_1, kR_2, kR_3, kR_4, kR_5, kR_6, kR_7, kR_8, kR_9, kR_10, kR_11, kR_12, kR_13, kR_14, kR_15, kR_16, kR_17, kR_18, kR_19, kR_20, kR_21, kR_22, kR_23, pR_0, pR_5, pR_6, pR_8, pR_11, pR_16, pR_17, pR_18, pR_21, pR_22, pR_23, pR_24, pR_26, pR_28, pR_29, pR_30, pR_33, pR_34, pR_35, pR_38, pR_41, pR_42, pR_43, hD.1, (EqW_o er)]
    refine s_193_62 (Nat.le_of_ble_eq_true rfl) (hin rr _ d (by omega)) ?_
    by_cases c1 : 0 ≤ rr ∧ rr ≤ (r : Int) - 1
    · rw [if_pos c1]
      simp only [s_193_0, s_193_1, s_193_2, s_193_5, s_193_6, s_193_7, s_193_10, s_193_11, s_193_14, s_193_15, s_193_16, s_193_19, s_193_20, s_193_23, s_193_24, s_193_25, s_193_26, s_193_27, s_193_28, s_193_31, s_193_32, s_193_33, s_193_34, s_193_37, s_193_38, s_193_41, s_193_42, s_193_43, s_193_46, s_193_47, s_193_50, s_193_51, s_193_52, s_193_54, s_193_55, s_193_56, s_193_57, s_193_60, s_193_61, s_193_65, s_193_68, s_193_70, s_193_71, s_193_72, s_193_75, s_193_76, s_193_80, s_193_83, s_193_84, s_193_87, s_193_88, s_193_89, s_193_91, s_193_92, s_193_95, s_193_96, true_and, and_true, sc0, sc1, sc2, sc3, sc4, Option.toList, List.cons_append, List.nil_append, clr, ne_eq, not_false_eq_true, not_true_eq_false, false_and, and_false, true_or, or_true, or_false, false_or, forall_const, Nat.reduceEqDiff, List.length_nil, List.length_cons, Nat.zero_le, Nat.reduceAdd, Nat.reduceLeDiff, false_implies, true_implies, Int.reduceEq, Int.reduceNe, Int.reduceLT, Int.reduceLE, Int.reduceNeg, Int.reduceToNat, Int.toNat_natCast, Nat.reduceLT, and_self, Decidable.not_not, kR_1, kR_2, kR_3, kR_4, kR_5, kR_6, kR_7, kR_8, kR_9, kR_10, kR_11, kR_12, kR_13, kR_14, kR_15, kR_16, kR_17, kR_18, kR_19, kR_20, kR_21, kR_22, kR_23, pR_0, pR_5, pR_6, pR_8, pR_11, pR_16, pR_17, pR_18, pR_21, pR_22, pR_23, pR_24, pR_26, pR_28, pR_29, pR_30, pR_33, pR_34, pR_35, pR_38, pR_41, pR_42, pR_43, hD.2.1, (EqW_o ec)]
      refine s_193_77 (Nat.le_of_ble_eq_true rfl) (hin cc _ d (by omega)) ?_
      by_cases c2 : 0 ≤ cc ∧ cc ≤ (c : Int) - 1
      · rw [if_pos c2]
        rw [if_pos ⟨c1, c2⟩] at hq
        have hm : 0 ≤ (c : Int) * rr ∧ (c : Int) * rr ≤ 36 := ⟨Int.mul_nonneg (by omega) c1.1, by
          have h5 : (c : Int) * rr ≤ 6 * 6 := Int.mul_le_mul (by omega) (by omega) c1.1 (by omega)
          omega⟩
        have w1 : EqW (w32 ((c : Int) * rr)) ((c : Int) * rr) := EqW_i <| w32s (by omega)
        have w2 : EqW (w32 ((c : Int) * rr + cc)) ((c : Int) * rr + cc) := EqW_i <| w32s (by omega)
        simp only [s_193_0, s_193_1, s_193_2, s_193_5, s_193_6, s_193_7, s_193_10, s_193_11, s_193_14, s_193_15, s_193_16, s_193_19, s_193_20, s_193_23, s_193_24, s_193_25, s_193_26, s_193_27, s_193_28, s_193_31, s_193_32, s_193_33, s_193_34, s_193_37, s_193_38, s_193_41, s_193_42, s_193_43, s_193_46, s_193_47, s_193_50, s_193_51, s_193_52, s_193_54, s_193_55, s_193_56, s_193_57, s_193_60, s_193_61, s_193_65, s_193_68, s_193_70, s_193_71, s_193_72, s_193_75, s_193_76, s_193_80, s_193_83, s_193_84, s_193_87, s_193_88, s_193_89, s_193_91, s_193_92, s_193_95, s_193_96, true_and, and_true, sc0, sc1, sc2, sc3, sc4, Option.toList, List.cons_append, List.nil_append, clr, ne_eq, not_false_eq_true, not_true_eq_false, false_and, and_false, true_or, or_true, or_false, false_or, forall_const, Nat.reduceEqDiff, List.length_nil, List.length_cons, Nat.zero_le, Nat.reduceAdd, Nat.reduceLeDiff, false_implies, true_implies, Int.reduceEq, Int.reduceNe, Int.reduceLT, Int.reduceLE, Int.reduceNeg, Int.reduceToNat, Int.toNat_natCast, Nat.reduceLT, and_self, Decidable.not_not, kR_1, kR_2, kR_3, kR_4, kR_5, kR_6, kR_7, kR_8, kR_9, kR_10, kR_11, kR_12, kR_13, kR_14, kR_15, kR_16, kR_17, kR_18, kR_19, kR_20, kR_21, kR_22, kR_23, pR_0, pR_5, pR_6, pR_8, pR_11, pR_16, pR_17, pR_18, pR_21, pR_22, pR_23, pR_24, pR_26, pR_28, pR_29, pR_30, pR_33, pR_34, pR_35, pR_38, pR_41, pR_42, pR_43, hD.2.1, (EqW_o w1), (EqW_o w2)]
        exact hq
      · rw [if_neg c2]
        rw [if_neg (fun w => c2 w.2)] at hq
        simp only [s_193_0, s_193_1, s_193_2, s_193_5, s_193_6, s_193_7, s_193_10, s_193_11, s_193_14, s_193_15, s_193_16, s_193_19, s_193_20, s_193_23, s_193_24, s_193_25, s_193_26, s_193_27, s_193_28, s_193_31, s_193_32, s_193_33, s_193_34, s_193_37, s_193_38, s_193_41, s_193_42, s_193_43, s_193_46, s_193_47, s_193_50, s_193_51, s_193_52, s_193_54, s_193_55, s_193_56, s_193_57, s_193_60, s_193_61, s_193_65, s_193_68, s_193_70, s_193_71, s_193_72, s_193_75, s_193_76, s_193_80, s_193_83, s_193_84, s_193_87, s_193_88, s_193_89, s_193_91, s_193_92, s_193_95, s_193_96, true_and, and_true, sc0, sc1, sc2, sc3, sc4, Option.toList, List.cons_append, List.nil_append, clr, ne_eq, not_false_eq_true, not_true_eq_false, false_and, and_false, true_or, or_true, or_false, false_or, forall_const, Nat.reduceEqDiff, List.length_nil, List.length_cons, Nat.zero_le, Nat.reduceAdd, Nat.reduceLeDiff, false_implies, true_implies, Int.reduceEq, Int.reduceNe, Int.reduceLT, Int.reduceLE, Int.reduceNeg, Int.reduceToNat, Int.toNat_natCast, Nat.reduceLT, and_self, Decidable.not_not, kR_1, kR_2, kR_3, kR_4, kR_5, kR_6, kR_7, kR_8, kR_9, kR_10, kR_11, kR_12, kR_13, kR_14, kR_15, kR_16, kR_17, kR_18, kR_19, kR_20, kR_21, kR_22, kR_23, pR_0, pR_5, pR_6, pR_8, pR_11, pR_16, pR_17, pR_18, pR_21, pR_22, pR_23, pR_24, pR_26, pR_28, pR_29, pR_30, pR_33, pR_34, pR_35, pR_38, pR_41, pR_42, pR_43]
        exact hq
    · rw [if_neg c1]
      rw [if_neg (fun w => c1 w.1)] at hq
      simp only [s_193_0, s_193_1, s_193_2, s_193_5, s_193_6, s_193_7, s_193_10, s_193_11, s_193_14, s_193_15, s_193_16, s_193_19, s_193_20, s_193_23, s_193_24, s_193_25, s_193_26, s_193_27, s_193_28, s_193_31, s_193_32, s_193_33, s_193_34, s_193_37, s_193_38, s_193_41, s_193_42, s_193_43, s_193_46, s_193_47, s_193_50, s_193_51, s_193_52, s_193_54, s_193_55, s_193_56, s_193_57, s_193_60, s_193_61, s_193_65, s_193_68, s_193_70, s_193_71, s_193_72, s_193_75, s_193_76, s_193_80, s_193_83, s_193_84, s_193_87, s_193_88, s_193_89, s_193_91, s_193_92, s_193_95, s_193_96, true_and, and_true, sc0, sc1, sc2, sc3, sc4, Option.toList, List.cons_append, List.nil_append, clr, ne_eq, not_false_eq_true, not_true_eq_false, false_and, and_false, true_or, or_true, or_false, false_or, forall_const, Nat.reduceEqDiff, List.length_nil, List.length_cons, Nat.zero_le, Nat.reduceAdd, Nat.reduceLeDiff, false_implies, true_implies, Int.reduceEq, Int.reduceNe, Int.reduceLT, Int.reduceLE, Int.reduceNeg, Int.reduceToNat, Int.toNat_natCast, Nat.reduceLT, and_self, Decidable.not_not, kR_1, kR_2, kR_3, kR_4, kR_5, kR_6, kR_7, kR_8, kR_9, kR_10, kR_11, kR_12, kR_13, kR_14, kR_15, kR_16, kR_17, kR_18, kR_19, kR_20, kR_21, kR_22, kR_23, pR_0, pR_5, pR_6, pR_8, pR_11, pR_16, pR_17, pR_18, pR_21, pR_22, pR_23, pR_24, pR_26, pR_28, pR_29, pR_30, pR_33, pR_34, pR_35, pR_38, pR_41, pR_42, pR_43]
      exact hq
  have hzr : z = r * c := hz
  have hrc : c * (r - 1) + c = r * c := by
    have : r * c = c * ((r - 1) + 1) := by rw [Nat.mul_comm, show r - 1 + 1 = r by omega]
    rw [this, Nat.mul_add, Nat.mul_one]
  have hmono : fr + 1 ≤ r - 1 + 1 := by omega
  have hcm : ∀ k, fr = k + 1 → c * fr = c * k + c := fun k e => by rw [e, Nat.mul_add, Nat.mul_one]
  have : h = 0 ∨ h = 1 ∨ h = 2 ∨ h = 3 := by omega
  rcases this with rfl | rfl | rfl | rfl
  · have w1 : EqW (w32 ((fr : Int) + -1)) ((fr : Int) - 1) := EqW_i <| by unfold w32; omega
    have w2 : EqW (w32 ((fc : Int) + 0)) ((fc : Int)) := EqW_i <| by unfold w32; omega
    have i1 : ¬ ((0 : Nat) : Int) ≠ 0 := by decide
    have i2 : ¬ ((0 : Nat) : Int) = 1 := by decide
    have i3 : ¬ ((0 : Nat) : Int) = 3 := by decide
    have i4 : ((0 : Nat) : Int) = 0 := rfl
    simp only [s_193_0, s_193_1, s_193_2, s_193_5, s_193_6, s_193_7, s_193_10, s_193_11, s_193_14, s_193_15, s_193_16, s_193_19, s_193_20, s_193_23, s_193_24, s_193_25, s_193_26, s_193_27, s_193_28, s_193_31, s_193_32, s_193_33, s_193_34, s_193_37, s_193_38, s_193_41, s_193_42, s_193_43, s_193_46, s_193_47, s_193_50, s_193_51, s_193_52, s_193_55, s_193_56, s_193_57, s_193_60, s_193_61, s_193_65, s_193_68, s_193_70, s_193_71, s_193_72, s_193_75, s_193_76, s_193_80, s_193_83, s_193_84, s_193_87, s_193_88, s_193_89, s_193_91, s_193_92, s_193_95, s_193_96, true_and, and_true, sc0, sc1, sc2, sc3, sc4, Option.toList, List.cons_append, List.nil_append, clr, ne_eq, not_false_eq_true, not_true_eq_false, false_and, and_false, true_or, or_true, or_false, false_or, forall_const, Nat.reduceEqDiff, List.length_nil, List.length_cons, Nat.zero_le, Nat.reduceAdd, Nat.reduceLeDiff, false_implies, true_implies, Int.reduceEq, Int.reduceNe, Int.reduceLT, Int.reduceLE, Int.reduceNeg, Int.reduceToNat, Int.toNat_natCast, Nat.reduceLT, and_self, Decidable.not_not, kR_1, kR_2, kR_3, kR_4, kR_5, kR_6, kR_7, kR_8, kR_9, kR_10, kR_11, kR_12, kR_13, kR_14, kR_15, kR_16, kR_17, kR_18, kR_19, kR_20, kR_21, kR_22, kR_23, pR_0, pR_5, pR_6, pR_8, pR_11, pR_16, pR_17, pR_18, pR_21, pR_22, pR_23, pR_24, pR_26, pR_28, pR_29, pR_30, pR_33, pR_34, pR_35, pR_38, pR_41, pR_42, pR_43, hD.2.1, (EqW_o e1), e2, ne, (EqW_o w1), (EqW_o w2), i2, i3, i4]
    refine last _ _ (by omega) (by omega) (by omega) (by omega) ?_
    show _ = bsd c z f 0
    rw [bsd_0]
    by_cases g : c ≤ f
    · have hfr : 1 ≤ fr := by
        rcases Nat.eq_zero_or_pos fr with e | e
        · rw [e, Nat.mul_zero] at hdm; omega
        · exact e
      have hk := hcm (fr - 1) (by omega)
      rw [if_pos g, if_pos (by omega)]
      have : (c : Int) * ((fr : Int) - 1) = ((c * (fr - 1) : Nat) : Int) := by rw [Int.natCast_mul, Int.natCast_sub hfr]; rfl
      rw [this]; omega
    · have hfr : fr = 0 := by
        rcases Nat.eq_zero_or_pos fr with e | e
        · exact e
        · have hk := hcm (fr - 1) (by omega); omega
      rw [if_neg g, if_neg (by omega)]
  · have w1 : EqW (w32 ((fr : Int) + 0)) ((fr : Int)) := EqW_i <| by unfold w32; omega
    have w2 : EqW (w32 ((fc : Int) + 1)) ((fc : Int) + 1) := EqW_i <| by unfold w32; omega
    have i1 : ¬ ((1 : Nat) : Int) = 0 := by decide
    have i2 : ¬ ((1 : Nat) : Int) = 2 := by decide
    have i3 : ((1 : Nat) : Int) = 1 := rfl
    simp only [s_193_0, s_193_1, s_193_2, s_193_5, s_193_6, s_193_7, s_193_10, s_193_11, s_193_14, s_193_15, s_193_16, s_193_19, s_193_20, s_193_23, s_193_24, s_193_25, s_193_26, s_193_27, s_193_28, s_193_31, s_193_32, s_193_33, s_193_34, s_193_37, s_193_38, s_193_41, s_193_42, s_193_43, s_193_46, s_193_47, s_193_50, s_193_51, s_193_52, s_193_55, s_193_56, s_193_57, s_193_60, s_193_61, s_193_65, s_193_68, s_193_70, s_193_71, s_193_72, s_193_75, s_193_76, s_193_80, s_193_83, s_193_84, s_193_87, s_193_88, s_193_89, s_193_91, s_193_92, s_193_95, s_193_96, true_and, and_true, sc0, sc1, sc2, sc3, sc4, Option.toList, List.cons_append, List.nil_append, clr, ne_eq, not_false_eq_true, not_true_eq_false, false_and, and_false, true_or, or_true, or_false, false_or, forall_const, Nat.reduceEqDiff, List.length_nil, List.length_cons, Nat.zero_le, Nat.reduceAdd, Nat.reduceLeDiff, false_implies, true_implies, Int.reduceEq, Int.reduceNe, Int.reduceLT, Int.reduceLE, Int.reduceNeg, Int.reduceToNat, Int.toNat_natCast, Nat.reduceLT, and_self, Decidable.not_not, kR_1, kR_2, kR_3, kR_4, kR_5, kR_6, kR_7, kR_8, kR_9, kR_10, kR_11, kR_12, kR_13, kR_14, kR_15, kR_16, kR_17, kR_18, kR_19, kR_20, kR_21, kR_22, kR_23, pR_0, pR_5, pR_6, pR_8, pR_11, pR_16, pR_17, pR_18, pR_21, pR_22, pR_23, pR_24, pR_26, pR_28, pR_29, pR_30, pR_33, pR_34, pR_35, pR_38, pR_41, pR_42, pR_43, hD.2.1, (EqW_o e1), e2, ne, (EqW_o w1), (EqW_o w2), i1, i2, i3]
    refine last _ _ (by omega) (by omega) (by omega) (by omega) ?_
    show _ = bsd c z f 2
    rw [bsd_2, hq2]
    by_cases g : fc = c - 1
    · rw [if_pos g, if_neg (by omega)]
    · rw [if_neg g, if_pos (by omega)]
      have : (c : Int) * (fr : Int) = ((c * fr : Nat) : Int) := by rw [Int.natCast_mul]
      rw [this]; omega
  · have w1 : EqW (w32 ((fr : Int) + 1)) ((fr : Int) + 1) := EqW_i <| by unfold w32; omega
    have w2 : EqW (w32 ((fc : Int) + 0)) ((fc : Int)) := EqW_i <| by unfold w32; omega
    have i1 : ¬ ((2 : Nat) : Int) = 0 := by decide
    have i2 : ((2 : Nat) : Int) = 2 := rfl
    have i3 : ¬ ((2 : Nat) : Int) = 1 := by decide
    have i4 : ¬ ((2 : Nat) : Int) = 3 := by decide
    simp only [s_193_0, s_193_1, s_193_2, s_193_5, s_193_6, s_193_7, s_193_10, s_193_11, s_193_14, s_193_15, s_193_16, s_193_19, s_193_20, s_193_23, s_193_24, s_193_25, s_193_26, s_193_27, s_193_28, s_193_31, s_193_32, s_193_33, s_193_34, s_193_37, s_193_38, s_193_41, s_193_42, s_193_43, s_193_46, s_193_47, s_193_50, s_193_51, s_193_52, s_193_55, s_193_56, s_193_57, s_193_60, s_193_61, s_193_65, s_193_68, s_193_70, s_193_71, s_193_72, s_193_75, s_193_76, s_193_80, s_193_83, s_193_84, s_193_87, s_193_88, s_193_89, s_193_91, s_193_92, s_193_95, s_193_96, true_and, and_true, sc0, sc1, sc2, sc3, sc4, Option.toList, List.cons_append, List.nil_append, clr, ne_eq, not_false_eq_true, not_true_eq_false, false_and, and_false, true_or, or_true, or_false, false_or, forall_const, Nat.reduceEqDiff, List.length_nil, List.length_cons, Nat.zero_le, Nat.reduceAdd, Nat.reduceLeDiff, false_implies, true_implies, Int.reduceEq, Int.reduceNe, Int.reduceLT, Int.reduceLE, Int.reduceNeg, Int.reduceToNat, Int.toNat_natCast, Nat.reduceLT, and_self, Decidable.not_not, kR_1, kR_2, kR_3, kR_4, kR_5, kR_6, kR_7, kR_8, kR_9, kR_10, kR_11, kR_12, kR_13, kR_14, kR_15, kR_16, kR_17, kR_18, kR_19, kR_20, kR_21, kR_22, kR_23, pR_0, pR_5, pR_6, pR_8, pR_11, pR_16, pR_17, pR_18, pR_21, pR_22, pR_23, pR_24, pR_26, pR_28, pR_29, pR_30, pR_33, pR_34, pR_35, pR_38, pR_41, pR_42, pR_43, hD.2.1, (EqW_o e1), e2, ne, (EqW_o w1), (EqW_o w2), i1, i2, i3, i4]
    refine last _ _ (by omega) (by omega) (by omega) (by omega) ?_
    show _ = bsd c z f 3
    rw [bsd_3]
    by_cases g : f + c < z
    · have hfr : fr < r - 1 := by
        apply Classical.byContradiction
        intro q
        have : fr = r - 1 := by omega
        rw [this] at hdm; omega
      rw [if_pos g, if_pos (by omega)]
      have : (c : Int) * ((fr : Int) + 1) = ((c * fr + c : Nat) : Int) := by rw [Int.mul_add, Int.mul_one, Int.natCast_add, Int.natCast_mul]
      rw [this]; omega
    · have hfr : fr = r - 1 := by
        apply Classical.byContradiction
        intro q
        have h1 : fr + 1 ≤ r - 1 := by omega
        have h2 : c * (fr + 1) ≤ c * (r - 1) := Nat.mul_le_mul_left _ h1
        rw [Nat.mul_add, Nat.mul_one] at h2
        omega
      rw [if_neg g, if_neg (by omega)]
  · have w1 : EqW (w32 ((fr : Int) + 0)) ((fr : Int)) := EqW_i <| by unfold w32; omega
    have w2 : EqW (w32 ((fc : Int) + -1)) ((fc : Int) - 1) := EqW_i <| by unfold w32; omega
    have i1 : ¬ ((3 : Nat) : Int) = 0 := by decide
    have i2 : ¬ ((3 : Nat) : Int) = 2 := by decide
    have i3 : ¬ ((3 : Nat) : Int) = 1 := by decide
    have i4 : ((3 : Nat) : Int) = 3 := rfl
    simp only [s_193_0, s_193_1, s_193_2, s_193_5, s_193_6, s_193_7, s_193_10, s_193_11, s_193_14, s_193_15, s_193_16, s_193_19, s_193_20, s_193_23, s_193_24, s_193_25, s_193_26, s_193_27, s_193_28, s_193_31, s_193_32, s_193_33, s_193_34, s_193_37, s_193_38, s_193_41, s_193_42, s_193_43, s_193_46, s_193_47, s_193_50, s_193_51, s_193_52, s_193_55, s_193_56, s_193_57, s_193_60, s_193_61, s_193_65, s_193_68, s_193_70, s_193_71, s_193_72, s_193_75, s_193_76, s_193_80, s_193_83, s_193_84, s_193_87, s_193_88, s_193_89, s_193_91, s_193_92, s_193_95, s_193_96, true_and, and_true, sc0, sc1, sc2, sc3, sc4, Option.toList, List.cons_append, List.nil_append, clr, ne_eq, not_false_eq_true, not_true_eq_false, false_and, and_false, true_or, or_true, or_false, false_or, forall_const, Nat.reduceEqDiff, List.length_nil, List.length_cons, Nat.zero_le, Nat.reduceAdd, Nat.reduceLeDiff, false_implies, true_implies, Int.reduceEq, Int.reduceNe, Int.reduceLT, Int.reduceLE, Int.reduceNeg, Int.reduceToNat, Int.toNat_natCast, Nat.reduceLT, and_self, Decidable.not_not, kR_1, kR_2, kR_3, kR_4, kR_5, kR_6, kR_7, kR_8, kR_9, kR_10, kR_11, kR_12, kR_13, kR_14, kR_15, kR_16, kR_17, kR_18, kR_19, kR_20, kR_21, kR_22, kR_23, pR_0, pR_5, pR_6, pR_8, pR_11, pR_16, pR_17, pR_18, pR_21, pR_22, pR_23, pR_24, pR_26, pR_28, pR_29, pR_30, pR_33, pR_34, pR_35, pR_38, pR_41, pR_42, pR_43, hD.2.1, (EqW_o e1), e2, ne, (EqW_o w1), (EqW_o w2), i1, i2, i3, i4]
    refine last _ _ (by omega) (by omega) (by omega) (by omega) ?_
    show _ = bsd c z f 1
    rw [bsd_1, hq2]
    by_cases g : fc = 0
    · rw [if_pos g, if_neg (by omega)]
    · rw [if_neg g, if_pos (by omega)]
      have : (c : Int) * (fr : Int) = ((c * fr : Nat) : Int) := by rw [Int.natCast_mul]
      rw [this]; omega
end
