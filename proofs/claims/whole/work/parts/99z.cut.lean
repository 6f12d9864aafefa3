/-! cut: the class; the reference tries all sets -/
def IsCut (c z : Nat) (p : Nat → Bool) (s t m : Nat) : Prop := m ≤ 4 ∧ (∀ q, CS z p s t q → Pd c z p q s t → m ≤ cnt q z) ∧ (m < 4 → ∃ q, CS z p s t q ∧ cnt q z = m ∧ Pd c z p q s t)
theorem IsCut_u {c z s t m m' : Nat} {p : Nat → Bool} (h : IsCut c z p s t m) (h' : IsCut c z p s t m') : m = m' := by
  rcases Nat.lt_trichotomy m m' with w | w | w
  · obtain ⟨q, a1, a2, a3⟩ := h.2.2 (by have := h'.1; omega)
    have := h'.2.1 q a1 a3
    omega
  · exact w
  · obtain ⟨q, a1, a2, a3⟩ := h'.2.2 (by have := h.1; omega)
    have := h.2.1 q a1 a3
    omega
noncomputable def mcV (c z : Nat) (p : Nat → Bool) (s t : Nat) : Nat := Classical.epsilon (IsCut c z p s t)
theorem mcV_e {c z s t m : Nat} {p : Nat → Bool} (h : IsCut c z p s t m) : mcV c z p s t = m := IsCut_u (Classical.epsilon_spec ⟨m, h⟩) h
noncomputable def qCut (c z n : Nat) (V : GV) (A B : Nat → Int) (g : Int) : Int := if ¬ (0 ≤ g ∧ g < (n : Int)) then -1 else if hpS c z V A B g.toNat then (if (B g.toNat).toNat = (A (108 + g.toNat)).toNat ∨ nbB c z (B g.toNat).toNat (A (108 + g.toNat)).toNat = true then -2 else (mcV c z (fun f => decide (0 < hF V A g.toNat f)) (B g.toNat).toNat (A (108 + g.toNat)).toNat : Int)) else 0
section
variable {M : MM} {b : Bool} {r c z n : Nat} {A B : Nat → Int} {V : GV} {u : Int}
theorem hp_R {g s t : Nat} (hL : Lnd c z) (hs : B g = (s : Int)) (ht : A (108 + g) = (t : Int)) (hsz : s < z) (htz : t < z) : hpS c z V A B g ↔ Rch c z (fun f => decide (0 < hF V A g f) = true) s t := by
  show hasP c z (hF V A g) (B g).toNat (A (108 + g)).toNat ↔ _
  rw [hs, ht, Int.toNat_natCast, Int.toNat_natCast, Rch_p hL hF_H hsz htz]
  exact Rch_cg hL hsz (fun f _ => by simp)
theorem c_cut {g : Int} (h : WdC M b r c z n A B V u) : Cw 6 101 [pR 1, pI g] LC (PC b) M (QC b M (pI (qCut c z n V A B g)) none) := by
  refine Cw_k [some (pR 1), some (pI g), none, none, none, none] (Nat.le_of_ble_eq_true rfl) rfl (fun d hd Q X hQ => ?_)
  obtain ⟨hG, hS, hV, hR, _⟩ := h
  have hn6 := hV.1
  have hz := GrC_z hG
  have hL := GrC_L hG
  have hqn := qr_n (b := b)
  have hha := c_Shas (b := b) (M := M) (g := g) now_st
  rw [hS.2.2.2.1] at hha
  unfold qCut at hQ
  simp only [s_101_0, s_101_1, s_101_4, s_101_8, s_101_11, s_101_12, s_101_13, s_101_14, s_101_17, s_101_20, s_101_21, s_101_22, s_101_23, s_101_24, s_101_27, s_101_30, s_101_31, s_101_32, s_101_33, s_101_34, s_101_37, s_101_38, s_101_41, s_101_42, s_101_45, s_101_49, s_101_51, s_101_52, s_101_55, s_101_57, s_101_61, s_101_65, s_101_68, s_101_69, s_101_70, s_101_71, s_101_72, s_101_75, s_101_76, s_101_79, s_101_80, s_101_84, s_101_87, s_101_89, s_101_90, s_101_91, s_101_94, s_101_96, s_101_97, s_101_101, true_and, and_true, sc0, sc1, sc2, sc3, sc4, Option.toList, List.cons_append, List.nil_append, clr, ne_eq, not_false_eq_true, not_true_eq_false, false_and, and_false, true_or, or_true, or_false, false_or, forall_const, Nat.reduceEqDiff, List.length_nil, List.length_cons, Nat.zero_le, Nat.reduceAdd, Nat.reduceLeDiff, false_implies, true_implies, Int.reduceEq, Int.reduceNe, Int.reduceLT, Int.reduceLE, Int.reduceNeg, Int.reduceToNat, Int.toNat_natCast, Nat.reduceLT, and_self, Decidable.not_not, kC_0, kC_1, kC_2, kC_3, kC_4, kC_5, kC_6, kC_7, kC_8, kC_9, kC_10, kC_11, kC_12, kC_13, kC_14, kC_15, kC_16, kC_17, kC_18, kC_19, kC_20, kC_21, kC_22, kC_23, kC_24, kC_25, kC_26, kC_27, kC_28, kC_29, kC_30, kC_31, kC_32, kC_145, kC_146, kC_147, kC_148, kC_149, kC_150, kC_151, kC_164, kC_165, kC_166, kC_167, kC_168, kC_169, kC_170, kC_171, kC_172, kC_173, kC_174, kC_175, kC_176, kC_177, kC_178, kC_179, kC_180, kC_181, kC_182, kC_183, kC_184, pC_1_0, pC_1_2, pC_1_3, pC_1_4, pC_1_5, pC_1_6, pC_1_7, pC_1_8, pC_1_9, pC_1_10, pC_1_11, pC_3_5, pC_5_0, pC_5_1, pC_5_2, pC_5_6, pC_5_7, pC_5_8, pC_5_9, pC_5_10, pC_13_0, pC_13_1, pC_13_2, pC_13_6, pC_13_7, pC_13_8, pC_13_9, pC_13_10, pC_21_0, pC_21_1, pC_21_2, pC_21_6, pC_21_7, pC_21_8, pC_21_9, pC_21_10, pC_29_0, pC_29_1, pC_29_2, pC_145_0, pC_145_1, pC_145_2, pC_145_3, pC_145_4, pC_149_0, pC_149_1, pC_149_2, pC_164_1, pC_164_2, pC_164_3, pC_168_0, pC_168_3, pC_168_4, pC_168_5, pC_172_0, pC_175_0, pC_175_2, pC_175_3, pC_175_5, pC_180_0, pC_180_2, pC_180_3, pC_180_5]
  refine s_101_5 (Nat.le_of_ble_eq_true rfl) kC_5 (hha d (by omega)) ?_
  by_cases c1 : 0 ≤ g ∧ g < (n : Int)
  case neg =>
    rw [if_pos c1] at hQ
    rw [if_neg c1]
    simp only [s_101_0, s_101_1, s_101_4, s_101_8, s_101_11, s_101_12, s_101_13, s_101_14, s_101_17, s_101_20, s_101_21, s_101_22, s_101_23, s_101_24, s_101_27, s_101_30, s_101_31, s_101_32, s_101_33, s_101_34, s_101_37, s_101_38, s_101_41, s_101_42, s_101_45, s_101_49, s_101_51, s_101_52, s_101_55, s_101_57, s_101_61, s_101_65, s_101_68, s_101_69, s_101_70, s_101_71, s_101_72, s_101_75, s_101_76, s_101_79, s_101_80, s_101_84, s_101_87, s_101_89, s_101_90, s_101_91, s_101_94, s_101_96, s_101_97, s_101_101, true_and, and_true, sc0, sc1, sc2, sc3, sc4, Option.toList, List.cons_append, List.nil_append, clr, ne_eq, not_false_eq_true, not_true_eq_false, false_and, and_false, true_or, or_true, or_false, false_or, forall_const, Nat.reduceEqDiff, List.length_nil, List.length_cons, Nat.zero_le, Nat.reduceAdd, Nat.reduceLeDiff, false_implies, true_implies, Int.reduceEq, Int.reduceNe, Int.reduceLT, Int.reduceLE, Int.reduceNeg, Int.reduceToNat, Int.toNat_natCast, Nat.reduceLT, and_self, Decidable.not_not, kC_0, kC_1, kC_2, kC_3, kC_4, kC_5, kC_6, kC_7, kC_8, kC_9, kC_10, kC_11, kC_12, kC_13, kC_14, kC_15, kC_16, kC_17, kC_18, kC_19, kC_20, kC_21, kC_22, kC_23, kC_24, kC_25, kC_26, kC_27, kC_28, kC_29, kC_30, kC_31, kC_32, kC_145, kC_146, kC_147, kC_148, kC_149, kC_150, kC_151, kC_164, kC_165, kC_166, kC_167, kC_168, kC_169, kC_170, kC_171, kC_172, kC_173, kC_174, kC_175, kC_176, kC_177, kC_178, kC_179, kC_180, kC_181, kC_182, kC_183, kC_184, pC_1_0, pC_1_2, pC_1_3, pC_1_4, pC_1_5, pC_1_6, pC_1_7, pC_1_8, pC_1_9, pC_1_10, pC_1_11, pC_3_5, pC_5_0, pC_5_1, pC_5_2, pC_5_6, pC_5_7, pC_5_8, pC_5_9, pC_5_10, pC_13_0, pC_13_1, pC_13_2, pC_13_6, pC_13_7, pC_13_8, pC_13_9, pC_13_10, pC_21_0, pC_21_1, pC_21_2, pC_21_6, pC_21_7, pC_21_8, pC_21_9, pC_21_10, pC_29_0, pC_29_1, pC_29_2, pC_145_0, pC_145_1, pC_145_2, pC_145_3, pC_145_4, pC_149_0, pC_149_1, pC_149_2, pC_164_1, pC_164_2, pC_164_3, pC_168_0, pC_168_3, pC_168_4, pC_168_5, pC_172_0, pC_175_0, pC_175_2, pC_175_3, pC_175_5, pC_180_0, pC_180_2, pC_180_3, pC_180_5]
    exact hQ _ _ _ (QC_n Sq_r rfl rfl)
  rw [if_neg (fun w => w c1)] at hQ
  rw [if_pos c1]
  obtain ⟨i, rfl⟩ : ∃ i : Nat, g = (i : Int) := ⟨g.toNat, by omega⟩
  have hi : i < n := by omega
  rw [Int.toNat_natCast] at hQ
  obtain ⟨vs, vt, _⟩ := hV.2.2.1 i hi
  obtain ⟨s, hs⟩ : ∃ s : Nat, B i = (s : Int) := ⟨(B i).toNat, by omega⟩
  obtain ⟨t, ht⟩ : ∃ s : Nat, A (108 + i) = (s : Int) := ⟨(A (108 + i)).toNat, by omega⟩
  have hsz : s < z := by omega
  have htz : t < z := by omega
  have hpp := hp_R (V := V) hL hs ht hsz htz
  have bi : (0 : Int) ≤ (i : Int) ∧ (i : Int) < ((6 : Nat) : Int) := by omega
  have e8 : M 8 i = (s : Int) := by rw [← hs]; exact (hS.2.2.2.2 i hi).1
  have e9 : M 9 i = (t : Int) := by rw [← ht]; exact (hS.2.2.2.2 i hi).2.1
  obtain ⟨v, P', N, hE, rfl, rfl, hN⟩ := c_goable (b := b) (g := i) qr_q now_st hi hG hS hV hR d (by omega)
  have hSq : Sq N M := Sq_s hN (fun p hp => by simp at hp; rw [hp]; exact qr_scr.2.2)
  have n172 : N 172 = M 172 := hN 172 (by simp; omega)
  have n173 : N 173 = M 173 := hN 173 (by simp; omega)
  have hGN : GrC N r c z := GrC_cg hG (hN 3 (by simp; omega)) (hN 4 (by simp; omega))
  simp only [s_101_0, s_101_1, s_101_4, s_101_8, s_101_11, s_101_12, s_101_13, s_101_14, s_101_17, s_101_20, s_101_21, s_101_22, s_101_23, s_101_24, s_101_27, s_101_30, s_101_31, s_101_32, s_101_33, s_101_34, s_101_37, s_101_38, s_101_41, s_101_42, s_101_45, s_101_49, s_101_51, s_101_52, s_101_55, s_101_57, s_101_61, s_101_65, s_101_68, s_101_69, s_101_70, s_101_71, s_101_72, s_101_75, s_101_76, s_101_79, s_101_80, s_101_84, s_101_87, s_101_89, s_101_90, s_101_91, s_101_94, s_101_96, s_101_97, s_101_101, true_and, and_true, sc0, sc1, sc2, sc3, sc4, Option.toList, List.cons_append, List.nil_append, clr, ne_eq, not_false_eq_true, not_true_eq_false, false_and, and_false, true_or, or_true, or_false, false_or, forall_const, Nat.reduceEqDiff, List.length_nil, List.length_cons, Nat.zero_le, Nat.reduceAdd, Nat.reduceLeDiff, false_implies, true_implies, Int.reduceEq, Int.reduceNe, Int.reduceLT, Int.reduceLE, Int.reduceNeg, Int.reduceToNat, Int.toNat_natCast, Nat.reduceLT, and_self, Decidable.not_not, kC_0, kC_1, kC_2, kC_3, kC_4, kC_5, kC_6, kC_7, kC_8, kC_9, kC_10, kC_11, kC_12, kC_13, kC_14, kC_15, kC_16, kC_17, kC_18, kC_19, kC_20, kC_21, kC_22, kC_23, kC_24, kC_25, kC_26, kC_27, kC_28, kC_29, kC_30, kC_31, kC_32, kC_145, kC_146, kC_147, kC_148, kC_149, kC_150, kC_151, kC_164, kC_165, kC_166, kC_167, kC_168, kC_169, kC_170, kC_171, kC_172, kC_173, kC_174, kC_175, kC_176, kC_177, kC_178, kC_179, kC_180, kC_181, kC_182, kC_183, kC_184, pC_1_0, pC_1_2, pC_1_3, pC_1_4, pC_1_5, pC_1_6, pC_1_7, pC_1_8, pC_1_9, pC_1_10, pC_1_11, pC_3_5, pC_5_0, pC_5_1, pC_5_2, pC_5_6, pC_5_7, pC_5_8, pC_5_9, pC_5_10, pC_13_0, pC_13_1, pC_13_2, pC_13_6, pC_13_7, pC_13_8, pC_13_9, pC_13_10, pC_21_0, pC_21_1, pC_21_2, pC_21_6, pC_21_7, pC_21_8, pC_21_9, pC_21_10, pC_29_0, pC_29_1, pC_29_2, pC_145_0, pC_145_1, pC_145_2, pC_145_3, pC_145_4, pC_149_0, pC_149_1, pC_149_2, pC_164_1, pC_164_2, pC_164_3, pC_168_0, pC_168_3, pC_168_4, pC_168_5, pC_172_0, pC_175_0, pC_175_2, pC_175_3, pC_175_5, pC_180_0, pC_180_2, pC_180_3, pC_180_5, bi, e8, e9, qr_p, qr_0]
  refine s_101_46 (Nat.le_of_ble_eq_true rfl) kC_145 hE ?_
  simp only [s_101_0, s_101_1, s_101_4, s_101_8, s_101_11, s_101_12, s_101_13, s_101_14, s_101_17, s_101_20, s_101_21, s_101_22, s_101_23, s_101_24, s_101_27, s_101_30, s_101_31, s_101_32, s_101_33, s_101_34, s_101_37, s_101_38, s_101_41, s_101_42, s_101_45, s_101_49, s_101_51, s_101_52, s_101_55, s_101_57, s_101_61, s_101_65, s_101_68, s_101_69, s_101_70, s_101_71, s_101_72, s_101_75, s_101_76, s_101_79, s_101_80, s_101_84, s_101_87, s_101_89, s_101_90, s_101_91, s_101_94, s_101_96, s_101_97, s_101_101, true_and, and_true, sc0, sc1, sc2, sc3, sc4, Option.toList, List.cons_append, List.nil_append, clr, ne_eq, not_false_eq_true, not_true_eq_false, false_and, and_false, true_or, or_true, or_false, false_or, forall_const, Nat.reduceEqDiff, List.length_nil, List.length_cons, Nat.zero_le, Nat.reduceAdd, Nat.reduceLeDiff, false_implies, true_implies, Int.reduceEq, Int.reduceNe, Int.reduceLT, Int.reduceLE, Int.reduceNeg, Int.reduceToNat, Int.toNat_natCast, Nat.reduceLT, and_self, Decidable.not_not, kC_0, kC_1, kC_2, kC_3, kC_4, kC_5, kC_6, kC_7, kC_8, kC_9, kC_10, kC_11, kC_12, kC_13, kC_14, kC_15, kC_16, kC_17, kC_18, kC_19, kC_20, kC_21, kC_22, kC_23, kC_24, kC_25, kC_26, kC_27, kC_28, kC_29, kC_30, kC_31, kC_32, kC_145, kC_146, kC_147, kC_148, kC_149, kC_150, kC_151, kC_164, kC_165, kC_166, kC_167, kC_168, kC_169, kC_170, kC_171, kC_172, kC_173, kC_174, kC_175, kC_176, kC_177, kC_178, kC_179, kC_180, kC_181, kC_182, kC_183, kC_184, pC_1_0, pC_1_2, pC_1_3, pC_1_4, pC_1_5, pC_1_6, pC_1_7, pC_1_8, pC_1_9, pC_1_10, pC_1_11, pC_3_5, pC_5_0, pC_5_1, pC_5_2, pC_5_6, pC_5_7, pC_5_8, pC_5_9, pC_5_10, pC_13_0, pC_13_1, pC_13_2, pC_13_6, pC_13_7, pC_13_8, pC_13_9, pC_13_10, pC_21_0, pC_21_1, pC_21_2, pC_21_6, pC_21_7, pC_21_8, pC_21_9, pC_21_10, pC_29_0, pC_29_1, pC_29_2, pC_145_0, pC_145_1, pC_145_2, pC_145_3, pC_145_4, pC_149_0, pC_149_1, pC_149_2, pC_164_1, pC_164_2, pC_164_3, pC_168_0, pC_168_3, pC_168_4, pC_168_5, pC_172_0, pC_175_0, pC_175_2, pC_175_3, pC_175_5, pC_180_0, pC_180_2, pC_180_3, pC_180_5]
  refine s_101_58 (Nat.le_of_ble_eq_true rfl) kC_3 (c_flood hGN hsz d (by omega)) ?_
  simp only [s_101_0, s_101_1, s_101_4, s_101_8, s_101_11, s_101_12, s_101_13, s_101_14, s_101_17, s_101_20, s_101_21, s_101_22, s_101_23, s_101_24, s_101_27, s_101_30, s_101_31, s_101_32, s_101_33, s_101_34, s_101_37, s_101_38, s_101_41, s_101_42, s_101_45, s_101_49, s_101_51, s_101_52, s_101_55, s_101_57, s_101_61, s_101_65, s_101_68, s_101_69, s_101_70, s_101_71, s_101_72, s_101_75, s_101_76, s_101_79, s_101_80, s_101_84, s_101_87, s_101_89, s_101_90, s_101_91, s_101_94, s_101_96, s_101_97, s_101_101, true_and, and_true, sc0, sc1, sc2, sc3, sc4, Option.toList, List.cons_append, List.nil_append, clr, ne_eq, not_false_eq_true, not_true_eq_false, false_and, and_false, true_or, or_true, or_false, false_or, forall_const, Nat.reduceEqDiff, List.length_nil, List.length_cons, Nat.zero_le, Nat.reduceAdd, Nat.reduceLeDiff, false_implies, true_implies, Int.reduceEq, Int.reduceNe, Int.reduceLT, Int.reduceLE, Int.reduceNeg, Int.reduceToNat, Int.toNat_natCast, Nat.reduceLT, and_self, Decidable.not_not, kC_0, kC_1, kC_2, kC_3, kC_4, kC_5, kC_6, kC_7, kC_8, kC_9, kC_10, kC_11, kC_12, kC_13, kC_14, kC_15, kC_16, kC_17, kC_18, kC_19, kC_20, kC_21, kC_22, kC_23, kC_24, kC_25, kC_26, kC_27, kC_28, kC_29, kC_30, kC_31, kC_32, kC_145, kC_146, kC_147, kC_148, kC_149, kC_150, kC_151, kC_164, kC_165, kC_166, kC_167, kC_168, kC_169, kC_170, kC_171, kC_172, kC_173, kC_174, kC_175, kC_176, kC_177, kC_178, kC_179, kC_180, kC_181, kC_182, kC_183, kC_184, pC_1_0, pC_1_2, pC_1_3, pC_1_4, pC_1_5, pC_1_6, pC_1_7, pC_1_8, pC_1_9, pC_1_10, pC_1_11, pC_3_5, pC_5_0, pC_5_1, pC_5_2, pC_5_6, pC_5_7, pC_5_8, pC_5_9, pC_5_10, pC_13_0, pC_13_1, pC_13_2, pC_13_6, pC_13_7, pC_13_8, pC_13_9, pC_13_10, pC_21_0, pC_21_1, pC_21_2, pC_21_6, pC_21_7, pC_21_8, pC_21_9, pC_21_10, pC_29_0, pC_29_1, pC_29_2, pC_145_0, pC_145_1, pC_145_2, pC_145_3, pC_145_4, pC_149_0, pC_149_1, pC_149_2, pC_164_1, pC_164_2, pC_164_3, pC_168_0, pC_168_3, pC_168_4, pC_168_5, pC_172_0, pC_175_0, pC_175_2, pC_175_3, pC_175_5, pC_180_0, pC_180_2, pC_180_3, pC_180_5]
  refine s_101_62 (Nat.le_of_ble_eq_true rfl) (c_hb hz.2 htz d (by omega)) ?_
  by_cases hp : hpS c z V A B i
  case neg =>
    rw [if_neg hp] at hQ
    rw [rcB_f (fun w => hp (hpp.mpr w))]
    simp only [s_101_0, s_101_1, s_101_4, s_101_8, s_101_11, s_101_12, s_101_13, s_101_14, s_101_17, s_101_20, s_101_21, s_101_22, s_101_23, s_101_24, s_101_27, s_101_30, s_101_31, s_101_32, s_101_33, s_101_34, s_101_37, s_101_38, s_101_41, s_101_42, s_101_45, s_101_49, s_101_51, s_101_52, s_101_55, s_101_57, s_101_61, s_101_65, s_101_68, s_101_69, s_101_70, s_101_71, s_101_72, s_101_75, s_101_76, s_101_79, s_101_80, s_101_84, s_101_87, s_101_89, s_101_90, s_101_91, s_101_94, s_101_96, s_101_97, s_101_101, true_and, and_true, sc0, sc1, sc2, sc3, sc4, Option.toList, List.cons_append, List.nil_append, clr, ne_eq, not_false_eq_true, not_true_eq_false, false_and, and_false, true_or, or_true, or_false, false_or, forall_const, Nat.reduceEqDiff, List.length_nil, List.length_cons, Nat.zero_le, Nat.reduceAdd, Nat.reduceLeDiff, false_implies, true_implies, Int.reduceEq, Int.reduceNe, Int.reduceLT, Int.reduceLE, Int.reduceNeg, Int.reduceToNat, Int.toNat_natCast, Nat.reduceLT, and_self, Decidable.not_not, kC_0, kC_1, kC_2, kC_3, kC_4, kC_5, kC_6, kC_7, kC_8, kC_9, kC_10, kC_11, kC_12, kC_13, kC_14, kC_15, kC_16, kC_17, kC_18, kC_19, kC_20, kC_21, kC_22, kC_23, kC_24, kC_25, kC_26, kC_27, kC_28, kC_29, kC_30, kC_31, kC_32, kC_145, kC_146, kC_147, kC_148, kC_149, kC_150, kC_151, kC_164, kC_165, kC_166, kC_167, kC_168, kC_169, kC_170, kC_171, kC_172, kC_173, kC_174, kC_175, kC_176, kC_177, kC_178, kC_179, kC_180, kC_181, kC_182, kC_183, kC_184, pC_1_0, pC_1_2, pC_1_3, pC_1_4, pC_1_5, pC_1_6, pC_1_7, pC_1_8, pC_1_9, pC_1_10, pC_1_11, pC_3_5, pC_5_0, pC_5_1, pC_5_2, pC_5_6, pC_5_7, pC_5_8, pC_5_9, pC_5_10, pC_13_0, pC_13_1, pC_13_2, pC_13_6, pC_13_7, pC_13_8, pC_13_9, pC_13_10, pC_21_0, pC_21_1, pC_21_2, pC_21_6, pC_21_7, pC_21_8, pC_21_9, pC_21_10, pC_29_0, pC_29_1, pC_29_2, pC_145_0, pC_145_1, pC_145_2, pC_145_3, pC_145_4, pC_149_0, pC_149_1, pC_149_2, pC_164_1, pC_164_2, pC_164_3, pC_168_0, pC_168_3, pC_168_4, pC_168_5, pC_172_0, pC_175_0, pC_175_2, pC_175_3, pC_175_5, pC_180_0, pC_180_2, pC_180_3, pC_180_5, Bool.false_eq_true, if_false]
    exact hQ _ _ _ (QC_n hSq n172 n173)
  have hRch := hpp.mp hp
  rw [if_pos hp, hs, ht, Int.toNat_natCast, Int.toNat_natCast] at hQ
  rw [rcB_t.mpr hRch]
  by_cases c2 : s = t
  · rw [if_pos (Or.inl c2)] at hQ
    have c2' : (s : Int) = (t : Int) := by omega
    simp only [s_101_0, s_101_1, s_101_4, s_101_8, s_101_11, s_101_12, s_101_13, s_101_14, s_101_17, s_101_20, s_101_21, s_101_22, s_101_23, s_101_24, s_101_27, s_101_30, s_101_31, s_101_32, s_101_33, s_101_34, s_101_37, s_101_38, s_101_41, s_101_42, s_101_45, s_101_49, s_101_51, s_101_52, s_101_55, s_101_57, s_101_61, s_101_65, s_101_68, s_101_69, s_101_70, s_101_71, s_101_72, s_101_75, s_101_76, s_101_79, s_101_80, s_101_84, s_101_87, s_101_89, s_101_90, s_101_91, s_101_94, s_101_96, s_101_97, s_101_101, true_and, and_true, sc0, sc1, sc2, sc3, sc4, Option.toList, List.cons_append, List.nil_append, clr, ne_eq, not_false_eq_true, not_true_eq_false, false_and, and_false, true_or, or_true, or_false, false_or, forall_const, Nat.reduceEqDiff, List.length_nil, List.length_cons, Nat.zero_le, Nat.reduceAdd, Nat.reduceLeDiff, false_implies, true_implies, Int.reduceEq, Int.reduceNe, Int.reduceLT, Int.reduceLE, Int.reduceNeg, Int.reduceToNat, Int.toNat_natCast, Nat.reduceLT, and_self, Decidable.not_not, kC_0, kC_1, kC_2, kC_3, kC_4, kC_5, kC_6, kC_7, kC_8, kC_9, kC_10, kC_11, kC_12, kC_13, kC_14, kC_15, kC_16, kC_17, kC_18, kC_19, kC_20, kC_21, kC_22, kC_23, kC_24, kC_25, kC_26, kC_27, kC_28, kC_29, kC_30, kC_31, kC_32, kC_145, kC_146, kC_147, kC_148, kC_149, kC_150, kC_151, kC_164, kC_165, kC_166, kC_167, kC_168, kC_169, kC_170, kC_171, kC_172, kC_173, kC_174, kC_175, kC_176, kC_177, kC_178, kC_179, kC_180, kC_181, kC_182, kC_183, kC_184, pC_1_0, pC_1_2, pC_1_3, pC_1_4, pC_1_5, pC_1_6, pC_1_7, pC_1_8, pC_1_9, pC_1_10, pC_1_11, pC_3_5, pC_5_0, pC_5_1, pC_5_2, pC_5_6, pC_5_7, pC_5_8, pC_5_9, pC_5_10, pC_13_0, pC_13_1, pC_13_2, pC_13_6, pC_13_7, pC_13_8, pC_13_9, pC_13_10, pC_21_0, pC_21_1, pC_21_2, pC_21_6, pC_21_7, pC_21_8, pC_21_9, pC_21_10, pC_29_0, pC_29_1, pC_29_2, pC_145_0, pC_145_1, pC_145_2, pC_145_3, pC_145_4, pC_149_0, pC_149_1, pC_149_2, pC_164_1, pC_164_2, pC_164_3, pC_168_0, pC_168_3, pC_168_4, pC_168_5, pC_172_0, pC_175_0, pC_175_2, pC_175_3, pC_175_5, pC_180_0, pC_180_2, pC_180_3, pC_180_5, if_true, c2']
    exact hQ _ _ _ (QC_n hSq n172 n173)
  have c2' : ¬ (s : Int) = (t : Int) := by omega
  simp only [s_101_0, s_101_1, s_101_4, s_101_8, s_101_11, s_101_12, s_101_13, s_101_14, s_101_17, s_101_20, s_101_21, s_101_22, s_101_23, s_101_24, s_101_27, s_101_30, s_101_31, s_101_32, s_101_33, s_101_34, s_101_37, s_101_38, s_101_41, s_101_42, s_101_45, s_101_49, s_101_51, s_101_52, s_101_55, s_101_57, s_101_61, s_101_65, s_101_68, s_101_69, s_101_70, s_101_71, s_101_72, s_101_75, s_101_76, s_101_79, s_101_80, s_101_84, s_101_87, s_101_89, s_101_90, s_101_91, s_101_94, s_101_96, s_101_97, s_101_101, true_and, and_true, sc0, sc1, sc2, sc3, sc4, Option.toList, List.cons_append, List.nil_append, clr, ne_eq, not_false_eq_true, not_true_eq_false, false_and, and_false, true_or, or_true, or_false, false_or, forall_const, Nat.reduceEqDiff, List.length_nil, List.length_cons, Nat.zero_le, Nat.reduceAdd, Nat.reduceLeDiff, false_implies, true_implies, Int.reduceEq, Int.reduceNe, Int.reduceLT, Int.reduceLE, Int.reduceNeg, Int.reduceToNat, Int.toNat_natCast, Nat.reduceLT, and_self, Decidable.not_not, kC_0, kC_1, kC_2, kC_3, kC_4, kC_5, kC_6, kC_7, kC_8, kC_9, kC_10, kC_11, kC_12, kC_13, kC_14, kC_15, kC_16, kC_17, kC_18, kC_19, kC_20, kC_21, kC_22, kC_23, kC_24, kC_25, kC_26, kC_27, kC_28, kC_29, kC_30, kC_31, kC_32, kC_145, kC_146, kC_147, kC_148, kC_149, kC_150, kC_151, kC_164, kC_165, kC_166, kC_167, kC_168, kC_169, kC_170, kC_171, kC_172, kC_173, kC_174, kC_175, kC_176, kC_177, kC_178, kC_179, kC_180, kC_181, kC_182, kC_183, kC_184, pC_1_0, pC_1_2, pC_1_3, pC_1_4, pC_1_5, pC_1_6, pC_1_7, pC_1_8, pC_1_9, pC_1_10, pC_1_11, pC_3_5, pC_5_0, pC_5_1, pC_5_2, pC_5_6, pC_5_7, pC_5_8, pC_5_9, pC_5_10, pC_13_0, pC_13_1, pC_13_2, pC_13_6, pC_13_7, pC_13_8, pC_13_9, pC_13_10, pC_21_0, pC_21_1, pC_21_2, pC_21_6, pC_21_7, pC_21_8, pC_21_9, pC_21_10, pC_29_0, pC_29_1, pC_29_2, pC_145_0, pC_145_1, pC_145_2, pC_145_3, pC_145_4, pC_149_0, pC_149_1, pC_149_2, pC_164_1, pC_164_2, pC_164_3, pC_168_0, pC_168_3, pC_168_4, pC_168_5, pC_172_0, pC_175_0, pC_175_2, pC_175_3, pC_175_5, pC_180_0, pC_180_2, pC_180_3, pC_180_5, if_true, c2']
  refine s_101_81 (Nat.le_of_ble_eq_true rfl) kC_3 (c_areBeside hGN hsz d (by omega)) ?_
  by_cases c3 : nbB c z s t = true
  · rw [if_pos (Or.inr c3)] at hQ
    rw [if_pos c3]
    simp only [s_101_0, s_101_1, s_101_4, s_101_8, s_101_11, s_101_12, s_101_13, s_101_14, s_101_17, s_101_20, s_101_21, s_101_22, s_101_23, s_101_24, s_101_27, s_101_30, s_101_31, s_101_32, s_101_33, s_101_34, s_101_37, s_101_38, s_101_41, s_101_42, s_101_45, s_101_49, s_101_51, s_101_52, s_101_55, s_101_57, s_101_61, s_101_65, s_101_68, s_101_69, s_101_70, s_101_71, s_101_72, s_101_75, s_101_76, s_101_79, s_101_80, s_101_84, s_101_87, s_101_89, s_101_90, s_101_91, s_101_94, s_101_96, s_101_97, s_101_101, true_and, and_true, sc0, sc1, sc2, sc3, sc4, Option.toList, List.cons_append, List.nil_append, clr, ne_eq, not_false_eq_true, not_true_eq_false, false_and, and_false, true_or, or_true, or_false, false_or, forall_const, Nat.reduceEqDiff, List.length_nil, List.length_cons, Nat.zero_le, Nat.reduceAdd, Nat.reduceLeDiff, false_implies, true_implies, Int.reduceEq, Int.reduceNe, Int.reduceLT, Int.reduceLE, Int.reduceNeg, Int.reduceToNat, Int.toNat_natCast, Nat.reduceLT, and_self, Decidable.not_not, kC_0, kC_1, kC_2, kC_3, kC_4, kC_5, kC_6, kC_7, kC_8, kC_9, kC_10, kC_11, kC_12, kC_13, kC_14, kC_15, kC_16, kC_17, kC_18, kC_19, kC_20, kC_21, kC_22, kC_23, kC_24, kC_25, kC_26, kC_27, kC_28, kC_29, kC_30, kC_31, kC_32, kC_145, kC_146, kC_147, kC_148, kC_149, kC_150, kC_151, kC_164, kC_165, kC_166, kC_167, kC_168, kC_169, kC_170, kC_171, kC_172, kC_173, kC_174, kC_175, kC_176, kC_177, kC_178, kC_179, kC_180, kC_181, kC_182, kC_183, kC_184, pC_1_0, pC_1_2, pC_1_3, pC_1_4, pC_1_5, pC_1_6, pC_1_7, pC_1_8, pC_1_9, pC_1_10, pC_1_11, pC_3_5, pC_5_0, pC_5_1, pC_5_2, pC_5_6, pC_5_7, pC_5_8, pC_5_9, pC_5_10, pC_13_0, pC_13_1, pC_13_2, pC_13_6, pC_13_7, pC_13_8, pC_13_9, pC_13_10, pC_21_0, pC_21_1, pC_21_2, pC_21_6, pC_21_7, pC_21_8, pC_21_9, pC_21_10, pC_29_0, pC_29_1, pC_29_2, pC_145_0, pC_145_1, pC_145_2, pC_145_3, pC_145_4, pC_149_0, pC_149_1, pC_149_2, pC_164_1, pC_164_2, pC_164_3, pC_168_0, pC_168_3, pC_168_4, pC_168_5, pC_172_0, pC_175_0, pC_175_2, pC_175_3, pC_175_5, pC_180_0, pC_180_2, pC_180_3, pC_180_5]
    exact hQ _ _ _ (QC_n hSq n172 n173)
  rw [if_neg (fun w => w.elim c2 c3)] at hQ
  rw [if_neg c3]
  obtain ⟨x, P', K, hE2, rfl, k1, m, rfl, k2, k3, k4⟩ := c_fewest (b := b) (p := fun f => decide (0 < hF V A i f)) hGN hsz htz hRch.1 c2 (fun w => c3 (nbB_t.mpr w)) d (by omega)
  rw [mcV_e ⟨k2, k3, k4⟩] at hQ
  simp only [s_101_0, s_101_1, s_101_4, s_101_8, s_101_11, s_101_12, s_101_13, s_101_14, s_101_17, s_101_20, s_101_21, s_101_22, s_101_23, s_101_24, s_101_27, s_101_30, s_101_31, s_101_32, s_101_33, s_101_34, s_101_37, s_101_38, s_101_41, s_101_42, s_101_45, s_101_49, s_101_51, s_101_52, s_101_55, s_101_57, s_101_61, s_101_65, s_101_68, s_101_69, s_101_70, s_101_71, s_101_72, s_101_75, s_101_76, s_101_79, s_101_80, s_101_84, s_101_87, s_101_89, s_101_90, s_101_91, s_101_94, s_101_96, s_101_97, s_101_101, true_and, and_true, sc0, sc1, sc2, sc3, sc4, Option.toList, List.cons_append, List.nil_append, clr, ne_eq, not_false_eq_true, not_true_eq_false, false_and, and_false, true_or, or_true, or_false, false_or, forall_const, Nat.reduceEqDiff, List.length_nil, List.length_cons, Nat.zero_le, Nat.reduceAdd, Nat.reduceLeDiff, false_implies, true_implies, Int.reduceEq, Int.reduceNe, Int.reduceLT, Int.reduceLE, Int.reduceNeg, Int.reduceToNat, Int.toNat_natCast, Nat.reduceLT, and_self, Decidable.not_not, kC_0, kC_1, kC_2, kC_3, kC_4, kC_5, kC_6, kC_7, kC_8, kC_9, kC_10, kC_11, kC_12, kC_13, kC_14, kC_15, kC_16, kC_17, kC_18, kC_19, kC_20, kC_21, kC_22, kC_23, kC_24, kC_25, kC_26, kC_27, kC_28, kC_29, kC_30, kC_31, kC_32, kC_145, kC_146, kC_147, kC_148, kC_149, kC_150, kC_151, kC_164, kC_165, kC_166, kC_167, kC_168, kC_169, kC_170, kC_171, kC_172, kC_173, kC_174, kC_175, kC_176, kC_177, kC_178, kC_179, kC_180, kC_181, kC_182, kC_183, kC_184, pC_1_0, pC_1_2, pC_1_3, pC_1_4, pC_1_5, pC_1_6, pC_1_7, pC_1_8, pC_1_9, pC_1_10, pC_1_11, pC_3_5, pC_5_0, pC_5_1, pC_5_2, pC_5_6, pC_5_7, pC_5_8, pC_5_9, pC_5_10, pC_13_0, pC_13_1, pC_13_2, pC_13_6, pC_13_7, pC_13_8, pC_13_9, pC_13_10, pC_21_0, pC_21_1, pC_21_2, pC_21_6, pC_21_7, pC_21_8, pC_21_9, pC_21_10, pC_29_0, pC_29_1, pC_29_2, pC_145_0, pC_145_1, pC_145_2, pC_145_3, pC_145_4, pC_149_0, pC_149_1, pC_149_2, pC_164_1, pC_164_2, pC_164_3, pC_168_0, pC_168_3, pC_168_4, pC_168_5, pC_172_0, pC_175_0, pC_175_2, pC_175_3, pC_175_5, pC_180_0, pC_180_2, pC_180_3, pC_180_5]
  refine s_101_98 (Nat.le_of_ble_eq_true rfl) kC_168 hE2 ?_
  simp only [s_101_0, s_101_1, s_101_4, s_101_8, s_101_11, s_101_12, s_101_13, s_101_14, s_101_17, s_101_20, s_101_21, s_101_22, s_101_23, s_101_24, s_101_27, s_101_30, s_101_31, s_101_32, s_101_33, s_101_34, s_101_37, s_101_38, s_101_41, s_101_42, s_101_45, s_101_49, s_101_51, s_101_52, s_101_55, s_101_57, s_101_61, s_101_65, s_101_68, s_101_69, s_101_70, s_101_71, s_101_72, s_101_75, s_101_76, s_101_79, s_101_80, s_101_84, s_101_87, s_101_89, s_101_90, s_101_91, s_101_94, s_101_96, s_101_97, s_101_101, true_and, and_true, sc0, sc1, sc2, sc3, sc4, Option.toList, List.cons_append, List.nil_append, clr, ne_eq, not_false_eq_true, not_true_eq_false, false_and, and_false, true_or, or_true, or_false, false_or, forall_const, Nat.reduceEqDiff, List.length_nil, List.length_cons, Nat.zero_le, Nat.reduceAdd, Nat.reduceLeDiff, false_implies, true_implies, Int.reduceEq, Int.reduceNe, Int.reduceLT, Int.reduceLE, Int.reduceNeg, Int.reduceToNat, Int.toNat_natCast, Nat.reduceLT, and_self, Decidable.not_not, kC_0, kC_1, kC_2, kC_3, kC_4, kC_5, kC_6, kC_7, kC_8, kC_9, kC_10, kC_11, kC_12, kC_13, kC_14, kC_15, kC_16, kC_17, kC_18, kC_19, kC_20, kC_21, kC_22, kC_23, kC_24, kC_25, kC_26, kC_27, kC_28, kC_29, kC_30, kC_31, kC_32, kC_145, kC_146, kC_147, kC_148, kC_149, kC_150, kC_151, kC_164, kC_165, kC_166, kC_167, kC_168, kC_169, kC_170, kC_171, kC_172, kC_173, kC_174, kC_175, kC_176, kC_177, kC_178, kC_179, kC_180, kC_181, kC_182, kC_183, kC_184, pC_1_0, pC_1_2, pC_1_3, pC_1_4, pC_1_5, pC_1_6, pC_1_7, pC_1_8, pC_1_9, pC_1_10, pC_1_11, pC_3_5, pC_5_0, pC_5_1, pC_5_2, pC_5_6, pC_5_7, pC_5_8, pC_5_9, pC_5_10, pC_13_0, pC_13_1, pC_13_2, pC_13_6, pC_13_7, pC_13_8, pC_13_9, pC_13_10, pC_21_0, pC_21_1, pC_21_2, pC_21_6, pC_21_7, pC_21_8, pC_21_9, pC_21_10, pC_29_0, pC_29_1, pC_29_2, pC_145_0, pC_145_1, pC_145_2, pC_145_3, pC_145_4, pC_149_0, pC_149_1, pC_149_2, pC_164_1, pC_164_2, pC_164_3, pC_168_0, pC_168_3, pC_168_4, pC_168_5, pC_172_0, pC_175_0, pC_175_2, pC_175_3, pC_175_5, pC_180_0, pC_180_2, pC_180_3, pC_180_5]
  exact hQ _ _ _ (QC_n (Sq_t hSq (fun p hp => k1 p (by unfold scr at hp; omega))) (by rw [k1 172 (by omega)]; exact n172) (by rw [k1 173 (by omega)]; exact n173))
end
def ckP (c z s t : Nat) : Nat → Nat → (Nat → Bool) → Prop
  | 0, _, pp => ¬ Rch c z (fun f => pp f = true) s t
  | k + 1, fr, pp => ∃ f, fr ≤ f ∧ f < z ∧ pp f = true ∧ f ≠ s ∧ f ≠ t ∧ ckP c z s t k (f + 1) (fun x => pp x && !decide (x = f))
theorem least {q : Nat → Bool} : ∀ f, q f = true → ∃ g, q g = true ∧ ∀ x, x < g → q x = false := by
  intro f
  induction f using Nat.strongRecOn with
  | _ f ih =>
    intro hf
    by_cases h : ∃ x, x < f ∧ q x = true
    · obtain ⟨x, h1, h2⟩ := h
      exact ih x h1 h2
    · refine ⟨f, hf, fun x hx => ?_⟩
      cases e : q x
      · rfl
      · exact absurd ⟨x, hx, e⟩ h
theorem cnt_ex {q : Nat → Bool} {n : Nat} (h : cnt q n ≠ 0) : ∃ f, f < n ∧ q f = true := by
  apply Classical.byContradiction
  intro w
  exact h (cnt_no (fun k hk => by
    cases e : q k
    · rfl
    · exact absurd ⟨k, hk, e⟩ w))
section
variable {c z s t : Nat}
theorem ck_iff (hL : Lnd c z) (hs : s < z) : ∀ (k fr : Nat) (pp : Nat → Bool), ckP c z s t k fr pp ↔ ∃ q : Nat → Bool, (∀ f, q f = true → fr ≤ f ∧ f < z ∧ pp f = true ∧ f ≠ s ∧ f ≠ t) ∧ cnt q z = k ∧ ¬ Rch c z (fun f => pp f = true ∧ q f = false) s t
  | 0, fr, pp => by
    constructor
    · intro h
      refine ⟨fun _ => false, fun f w => (by cases w), cnt_fz z, fun w => h ?_⟩
      exact (Rch_cg hL hs (fun f _ => ⟨fun q => q.1, fun q => ⟨q, rfl⟩⟩)).mp w
    · rintro ⟨q, h1, h2, h3⟩ w
      apply h3
      refine (Rch_cg hL hs (fun f hf => ⟨fun p => ⟨p, ?_⟩, fun p => p.1⟩)).mp w
      cases e : q f
      · rfl
      · have := cnt_no (p := fun _ => false) (n := z) (fun _ _ => rfl)
        have h4 := cnt_lt (p := fun _ => false) (q := q) z (fun k _ w => (by cases w)) f hf rfl e
        omega
  | k + 1, fr, pp => by
    constructor
    · rintro ⟨f, h1, h2, h3, h4, h5, h6⟩
      obtain ⟨q, a1, a2, a3⟩ := (ck_iff hL hs k (f + 1) _).mp h6
      have qf : q f = false := by
        cases e : q f
        · rfl
        · have := (a1 f e).1; omega
      refine ⟨fun x => q x || decide (x = f), fun x hx => ?_, ?_, fun w => a3 ?_⟩
      · rw [Bool.or_eq_true, decide_eq_true_eq] at hx
        rcases hx with hx | hx
        · obtain ⟨b1, b2, b3, b4⟩ := a1 x hx
          rw [Bool.and_eq_true] at b3
          exact ⟨by omega, b2, b3.1, b4⟩
        · subst hx; exact ⟨h1, h2, h3, h4, h5⟩
      · rw [cnt_1 (p := fun x => q x || decide (x = f)) (q := q) h2 (fun x _ hne => by simp [hne]) (by simp) qf, a2]
      · refine (Rch_cg hL hs (fun x _ => ?_)).mp w
        constructor
        · rintro ⟨b1, b2⟩
          rw [Bool.or_eq_false_iff] at b2
          exact ⟨by rw [Bool.and_eq_true, Bool.not_eq_true']; exact ⟨b1, b2.2⟩, b2.1⟩
        · rintro ⟨b1, b2⟩
          rw [Bool.and_eq_true, Bool.not_eq_true'] at b1
          exact ⟨b1.1, by rw [Bool.or_eq_false_iff]; exact ⟨b2, b1.2⟩⟩
    · rintro ⟨q, h1, h2, h3⟩
      obtain ⟨f0, _, hf0⟩ := cnt_ex (q := q) (n := z) (by omega)
      obtain ⟨f, hf, hlow⟩ := least f0 hf0
      obtain ⟨b1, b2, b3, b4, b5⟩ := h1 f hf
      refine ⟨f, b1, b2, b3, b4, b5, (ck_iff hL hs k (f + 1) _).mpr ⟨fun x => q x && !decide (x = f), fun x hx => ?_, ?_, fun w => h3 ?_⟩⟩
      · rw [Bool.and_eq_true, Bool.not_eq_true', decide_eq_false_iff_not] at hx
        obtain ⟨d1, d2, d3, d4⟩ := h1 x hx.1
        refine ⟨?_, d2, by simp [d3, hx.2], d4⟩
        apply Classical.byContradiction
        intro w
        have := hlow x (by have := hx.2; omega)
        rw [hx.1] at this; cases this
      · have := cnt_1 (p := q) (q := fun x => q x && !decide (x = f)) b2 (fun x _ hne => by simp [hne]) hf (by simp)
        omega
      · refine (Rch_cg hL hs (fun x _ => ?_)).mp w
        constructor
        · rintro ⟨e1, e2⟩
          rw [Bool.and_eq_true, Bool.not_eq_true'] at e1
          refine ⟨e1.1, ?_⟩
          have e2' : (q x && !decide (x = f)) = false := e2
          rw [e1.2] at e2'
          simpa using e2'
        · rintro ⟨e1, e2⟩
          have hne : ¬ x = f := fun w => by rw [w, hf] at e2; cases e2
          exact ⟨by simp [e1, hne], by simp [e2]⟩
theorem ck_S (hL : Lnd c z) (hs : s < z) {k : Nat} {pp : Nat → Bool} : ckP c z s t k 0 pp ↔ ∃ q, CS z pp s t q ∧ cnt q z = k ∧ Pd c z pp q s t := by
  rw [ck_iff hL hs]
  constructor
  · rintro ⟨q, h1, h2⟩
    exact ⟨q, fun f hf => (h1 f hf).2, h2⟩
  · rintro ⟨q, h1, h2⟩
    exact ⟨q, fun f hf => ⟨Nat.zero_le _, h1 f hf⟩, h2⟩
end
section
variable {M : MM} {rd ru r c z n i s t : Nat}
theorem r_canCut (hD : RD M r c n) (hzr : z = r * c) (hL : Lnd c z) (hi : i < 6) (h3 : M 3 i = (s : Int)) (h2 : M 2 (108 + i) = (t : Int)) (hs : s < z) (ht : t < z) : ∀ (k : Nat), k ≤ 3 → ∀ (fr : Nat) (pp : Nat → Bool) (N : MM), fr ≤ z → (∀ o, o ≠ 10 → N o = M o) → (∀ f, f < z → 0 ≤ N 10 f ∧ (0 < N 10 f ↔ pp f = true)) → Cw (4 + k) 226 [pR 1, pI (i : Int), pI (fr : Int), pI (k : Int)] LR (PR rd ru) N (fun x P' N' => P' = PR rd ru ∧ N' = N ∧ ((x = some (pI 1) ∧ ckP c z s t k fr pp) ∨ (x = some (pI 0) ∧ ¬ ckP c z s t k fr pp))) := by
  intro k
  have bi : (0 : Int) ≤ (i : Int) ∧ (i : Int) < ((6 : Nat) : Int) := by omega
  have bg : (0 : Int) ≤ ((108 + i : Nat) : Int) ∧ ((108 + i : Nat) : Int) < ((133 : Nat) : Int) := by omega
  have eg := EqW_i (show w32 (108 + (i : Int)) = ((108 + i : Nat) : Int) by unfold w32; omega)
  have hz36 := hL.2.2.1
  induction k with
  | zero =>
    intro _ fr pp N hfr hN hpp
    refine Cw_k [some (pR 1), some (pI (i : Int)), some (pI (fr : Int)), some (pI ((0 : Nat) : Int)), none, none, none] (Nat.le_of_ble_eq_true rfl) rfl (fun d hd Q X hQ => ?_)
    have n3 : N 3 i = (s : Int) := by rw [hN 3 (by decide)]; exact h3
    have n2 : N 2 (108 + i) = (t : Int) := by rw [hN 2 (by decide)]; exact h2
    have hDN : RD N r c n := by
      obtain ⟨d1, d2, d3, q⟩ := hD
      rw [← hN 1 (by decide)] at d1 d2 d3
      exact ⟨d1, d2, d3, q⟩
    have hfl := r_flood (rd := rd) (ru := ru) (p := pp) hDN hzr hL (fun f hf => (hpp f hf).2) hs
    have hb := EqW_i (bit_s (a := bs (rcB c z pp s) z) (k := t) (bs_le (by omega)) (by omega))
    have z0 : ((0 : Nat) : Int) = 0 := rfl
    simp only [s_226_0, s_226_1, s_226_4, s_226_5, s_226_6, s_226_9, s_226_10, s_226_14, s_226_15, s_226_18, s_226_20, s_226_21, s_226_22, s_226_23, s_226_24, s_226_25, s_226_26, s_226_27, s_226_28, s_226_31, s_226_32, s_226_35, s_226_36, s_226_37, s_226_38, s_226_42, s_226_46, s_226_49, s_226_50, s_226_53, s_226_55, s_226_56, s_226_59, s_226_61, s_226_62, s_226_65, s_226_66, s_226_67, s_226_70, s_226_72, s_226_73, s_226_76, s_226_78, s_226_79, s_226_80, s_226_81, s_226_84, s_226_87, s_226_88, s_226_91, s_226_93, s_226_94, s_226_96, s_226_97, s_226_100, s_226_102, s_226_103, s_226_104, s_226_105, s_226_106, s_226_108, s_226_109, s_226_110, s_226_111, s_226_112, s_226_116, s_226_118, s_226_119, s_226_122, s_226_124, s_226_126, s_226_127, s_226_129, s_226_132, s_226_133, s_226_134, s_226_137, s_226_140, s_226_141, true_and, and_true, sc0, sc1, sc2, sc3, sc4, Option.toList, List.cons_append, List.nil_append, clr, ne_eq, not_false_eq_true, not_true_eq_false, false_and, and_false, true_or, or_true, or_false, false_or, forall_const, Nat.reduceEqDiff, List.length_nil, List.length_cons, Nat.zero_le, Nat.reduceAdd, Nat.reduceLeDiff, false_implies, true_implies, Int.reduceEq, Int.reduceNe, Int.reduceLT, Int.reduceLE, Int.reduceNeg, Int.reduceToNat, Int.toNat_natCast, Nat.reduceLT, and_self, Decidable.not_not, kR_1, kR_2, kR_3, kR_4, kR_5, kR_6, kR_7, kR_8, kR_9, kR_10, kR_11, kR_12, kR_13, kR_14, kR_15, kR_16, kR_17, kR_18, kR_19, kR_20, kR_21, kR_22, kR_23, pR_0, pR_5, pR_6, pR_8, pR_11, pR_16, pR_17, pR_18, pR_21, pR_22, pR_23, pR_24, pR_26, pR_28, pR_29, pR_30, pR_33, pR_34, pR_35, pR_38, pR_41, pR_42, pR_43, z0, bi, n3]
    refine s_226_11 (Nat.le_of_ble_eq_true rfl) kR_1 (hfl d (by omega)) ?_
    simp only [s_226_0, s_226_1, s_226_4, s_226_5, s_226_6, s_226_9, s_226_10, s_226_14, s_226_15, s_226_18, s_226_20, s_226_21, s_226_22, s_226_23, s_226_24, s_226_25, s_226_26, s_226_27, s_226_28, s_226_31, s_226_32, s_226_35, s_226_36, s_226_37, s_226_38, s_226_42, s_226_46, s_226_49, s_226_50, s_226_53, s_226_55, s_226_56, s_226_59, s_226_61, s_226_62, s_226_65, s_226_66, s_226_67, s_226_70, s_226_72, s_226_73, s_226_76, s_226_78, s_226_79, s_226_80, s_226_81, s_226_84, s_226_87, s_226_88, s_226_91, s_226_93, s_226_94, s_226_96, s_226_97, s_226_100, s_226_102, s_226_103, s_226_104, s_226_105, s_226_106, s_226_108, s_226_109, s_226_110, s_226_111, s_226_112, s_226_116, s_226_118, s_226_119, s_226_122, s_226_124, s_226_126, s_226_127, s_226_129, s_226_132, s_226_133, s_226_134, s_226_137, s_226_140, s_226_141, true_and, and_true, sc0, sc1, sc2, sc3, sc4, Option.toList, List.cons_append, List.nil_append, clr, ne_eq, not_false_eq_true, not_true_eq_false, false_and, and_false, true_or, or_true, or_false, false_or, forall_const, Nat.reduceEqDiff, List.length_nil, List.length_cons, Nat.zero_le, Nat.reduceAdd, Nat.reduceLeDiff, false_implies, true_implies, Int.reduceEq, Int.reduceNe, Int.reduceLT, Int.reduceLE, Int.reduceNeg, Int.reduceToNat, Int.toNat_natCast, Nat.reduceLT, and_self, Decidable.not_not, kR_1, kR_2, kR_3, kR_4, kR_5, kR_6, kR_7, kR_8, kR_9, kR_10, kR_11, kR_12, kR_13, kR_14, kR_15, kR_16, kR_17, kR_18, kR_19, kR_20, kR_21, kR_22, kR_23, pR_0, pR_5, pR_6, pR_8, pR_11, pR_16, pR_17, pR_18, pR_21, pR_22, pR_23, pR_24, pR_26, pR_28, pR_29, pR_30, pR_33, pR_34, pR_35, pR_38, pR_41, pR_42, pR_43, EqW_o eg, bg, n2, EqW_o hb]
    rw [bs_bit]
    by_cases hR : Rch c z (fun f => pp f = true) s t
    · rw [rcB_t.mpr hR, decide_eq_true ht]
      have e1 : ¬ lCmp (((true && true : Bool).toNat : Nat) : Int) 0 = 0 := by decide
      simp only [s_226_0, s_226_1, s_226_4, s_226_5, s_226_6, s_226_9, s_226_10, s_226_14, s_226_15, s_226_18, s_226_20, s_226_21, s_226_22, s_226_23, s_226_24, s_226_25, s_226_26, s_226_27, s_226_28, s_226_31, s_226_32, s_226_35, s_226_36, s_226_37, s_226_38, s_226_42, s_226_46, s_226_49, s_226_50, s_226_53, s_226_55, s_226_56, s_226_59, s_226_61, s_226_62, s_226_65, s_226_66, s_226_67, s_226_70, s_226_72, s_226_73, s_226_76, s_226_78, s_226_79, s_226_80, s_226_81, s_226_84, s_226_87, s_226_88, s_226_91, s_226_93, s_226_94, s_226_96, s_226_97, s_226_100, s_226_102, s_226_103, s_226_104, s_226_105, s_226_106, s_226_108, s_226_109, s_226_110, s_226_111, s_226_112, s_226_116, s_226_118, s_226_119, s_226_122, s_226_124, s_226_126, s_226_127, s_226_129, s_226_132, s_226_133, s_226_134, s_226_137, s_226_140, s_226_141, true_and, and_true, sc0, sc1, sc2, sc3, sc4, Option.toList, List.cons_append, List.nil_append, clr, ne_eq, not_false_eq_true, not_true_eq_false, false_and, and_false, true_or, or_true, or_false, false_or, forall_const, Nat.reduceEqDiff, List.length_nil, List.length_cons, Nat.zero_le, Nat.reduceAdd, Nat.reduceLeDiff, false_implies, true_implies, Int.reduceEq, Int.reduceNe, Int.reduceLT, Int.reduceLE, Int.reduceNeg, Int.reduceToNat, Int.toNat_natCast, Nat.reduceLT, and_self, Decidable.not_not, kR_1, kR_2, kR_3, kR_4, kR_5, kR_6, kR_7, kR_8, kR_9, kR_10, kR_11, kR_12, kR_13, kR_14, kR_15, kR_16, kR_17, kR_18, kR_19, kR_20, kR_21, kR_22, kR_23, pR_0, pR_5, pR_6, pR_8, pR_11, pR_16, pR_17, pR_18, pR_21, pR_22, pR_23, pR_24, pR_26, pR_28, pR_29, pR_30, pR_33, pR_34, pR_35, pR_38, pR_41, pR_42, pR_43, e1]
      exact hQ _ _ _ ⟨rfl, rfl, Or.inr ⟨rfl, fun w => w hR⟩⟩
    · rw [rcB_f hR, decide_eq_true ht]
      have e1 : EqW (lCmp (((true && false : Bool).toNat : Nat) : Int) 0) (0) := EqW_i <| by decide
      simp only [s_226_0, s_226_1, s_226_4, s_226_5, s_226_6, s_226_9, s_226_10, s_226_14, s_226_15, s_226_18, s_226_20, s_226_21, s_226_22, s_226_23, s_226_24, s_226_25, s_226_26, s_226_27, s_226_28, s_226_31, s_226_32, s_226_35, s_226_36, s_226_37, s_226_38, s_226_42, s_226_46, s_226_49, s_226_50, s_226_53, s_226_55, s_226_56, s_226_59, s_226_61, s_226_62, s_226_65, s_226_66, s_226_67, s_226_70, s_226_72, s_226_73, s_226_76, s_226_78, s_226_79, s_226_80, s_226_81, s_226_84, s_226_87, s_226_88, s_226_91, s_226_93, s_226_94, s_226_96, s_226_97, s_226_100, s_226_102, s_226_103, s_226_104, s_226_105, s_226_106, s_226_108, s_226_109, s_226_110, s_226_111, s_226_112, s_226_116, s_226_118, s_226_119, s_226_122, s_226_124, s_226_126, s_226_127, s_226_129, s_226_132, s_226_133, s_226_134, s_226_137, s_226_140, s_226_141, true_and, and_true, sc0, sc1, sc2, sc3, sc4, Option.toList, List.cons_append, List.nil_append, clr, ne_eq, not_false_eq_true, not_true_eq_false, false_and, and_false, true_or, or_true, or_false, false_or, forall_const, Nat.reduceEqDiff, List.length_nil, List.length_cons, Nat.zero_le, Nat.reduceAdd, Nat.reduceLeDiff, false_implies, true_implies, Int.reduceEq, Int.reduceNe, Int.reduceLT, Int.reduceLE, Int.reduceNeg, Int.reduceToNat, Int.toNat_natCast, Nat.reduceLT, and_self, Decidable.not_not, kR_1, kR_2, kR_3, kR_4, kR_5, kR_6, kR_7, kR_8, kR_9, kR_10, kR_11, kR_12, kR_13, kR_14, kR_15, kR_16, kR_17, kR_18, kR_19, kR_20, kR_21, kR_22, kR_23, pR_0, pR_5, pR_6, pR_8, pR_11, pR_16, pR_17, pR_18, pR_21, pR_22, pR_23, pR_24, pR_26, pR_28, pR_29, pR_30, pR_33, pR_34, pR_35, pR_38, pR_41, pR_42, pR_43, (EqW_o e1)]
      exact hQ _ _ _ ⟨rfl, rfl, Or.inl ⟨rfl, hR⟩⟩
  | succ k ih =>
    intro hk3 fr pp N hfr hN hpp
    refine Cw_k (k := 4 + k) [some (pR 1), some (pI (i : Int)), some (pI (fr : Int)), some (pI ((k + 1 : Nat) : Int)), none, none, none] (Nat.le_of_ble_eq_true rfl) rfl (fun d hd Q X hQ => ?_)
    have n3 : N 3 i = (s : Int) := by rw [hN 3 (by decide)]; exact h3
    have n2 : N 2 (108 + i) = (t : Int) := by rw [hN 2 (by decide)]; exact h2
    have hDN : RD N r c n := by
      obtain ⟨d1, d2, d3, q⟩ := hD
      rw [← hN 1 (by decide)] at d1 d2 d3
      exact ⟨d1, d2, d3, q⟩
    have hfi := r_fields (rd := rd) (ru := ru) hDN
    rw [← hzr] at hfi
    have k0 : ¬ ((k + 1 : Nat) : Int) = 0 := by omega
    have ek := EqW_i (show w32 (((k + 1 : Nat) : Int) - 1) = (k : Int) by rw [w32s (by omega)]; omega)
    have main : ∀ (m f : Nat) (l5 l6 : Option PV), f + m = z → fr ≤ f → (∀ x, fr ≤ x → x < f → ¬ (pp x = true ∧ x ≠ s ∧ x ≠ t ∧ ckP c z s t k (x + 1) (fun y => pp y && !decide (y = x)))) → wpB (Ev d) 226 Q X 40 [some (pR 1), some (pI (i : Int)), some (pI (fr : Int)), some (pI ((k + 1 : Nat) : Int)), some (pI (f : Int)), l5, l6] [] (kz LR) (PR rd ru) N := by
      intro m
      induction m with
      | zero =>
        intro f l5 l6 hf hff hno
        have g1 : (z : Int) ≤ (f : Int) := by omega
        rw [s_226_40]
        simp only [s_226_0, s_226_1, s_226_4, s_226_5, s_226_6, s_226_9, s_226_10, s_226_14, s_226_15, s_226_18, s_226_20, s_226_21, s_226_22, s_226_23, s_226_24, s_226_25, s_226_26, s_226_27, s_226_28, s_226_31, s_226_32, s_226_35, s_226_36, s_226_37, s_226_38, s_226_42, s_226_46, s_226_49, s_226_50, s_226_53, s_226_55, s_226_56, s_226_59, s_226_61, s_226_62, s_226_65, s_226_66, s_226_67, s_226_70, s_226_72, s_226_73, s_226_76, s_226_78, s_226_79, s_226_80, s_226_81, s_226_84, s_226_87, s_226_88, s_226_91, s_226_93, s_226_94, s_226_96, s_226_97, s_226_100, s_226_102, s_226_103, s_226_104, s_226_105, s_226_106, s_226_108, s_226_109, s_226_110, s_226_111, s_226_112, s_226_116, s_226_118, s_226_119, s_226_122, s_226_124, s_226_126, s_226_127, s_226_129, s_226_132, s_226_133, s_226_134, s_226_137, s_226_140, s_226_141, true_and, and_true, sc0, sc1, sc2, sc3, sc4, Option.toList, List.cons_append, List.nil_append, clr, ne_eq, not_false_eq_true, not_true_eq_false, false_and, and_false, true_or, or_true, or_false, false_or, forall_const, Nat.reduceEqDiff, List.length_nil, List.length_cons, Nat.zero_le, Nat.reduceAdd, Nat.reduceLeDiff, false_implies, true_implies, Int.reduceEq, Int.reduceNe, Int.reduceLT, Int.reduceLE, Int.reduceNeg, Int.reduceToNat, Int.toNat_natCast, Nat.reduceLT, and_self, Decidable.not_not, kR_1, kR_2, kR_3, kR_4, kR_5, kR_6, kR_7, kR_8, kR_9, kR_10, kR_11, kR_12, kR_13, kR_14, kR_15, kR_16, kR_17, kR_18, kR_19, kR_20, kR_21, kR_22, kR_23, pR_0, pR_5, pR_6, pR_8, pR_11, pR_16, pR_17, pR_18, pR_21, pR_22, pR_23, pR_24, pR_26, pR_28, pR_29, pR_30, pR_33, pR_34, pR_35, pR_38, pR_41, pR_42, pR_43]
        refine s_226_43 (Nat.le_of_ble_eq_true rfl) kR_1 (hfi d (by omega)) ?_
        simp only [s_226_0, s_226_1, s_226_4, s_226_5, s_226_6, s_226_9, s_226_10, s_226_14, s_226_15, s_226_18, s_226_20, s_226_21, s_226_22, s_226_23, s_226_24, s_226_25, s_226_26, s_226_27, s_226_28, s_226_31, s_226_32, s_226_35, s_226_36, s_226_37, s_226_38, s_226_42, s_226_46, s_226_49, s_226_50, s_226_53, s_226_55, s_226_56, s_226_59, s_226_61, s_226_62, s_226_65, s_226_66, s_226_67, s_226_70, s_226_72, s_226_73, s_226_76, s_226_78, s_226_79, s_226_80, s_226_81, s_226_84, s_226_87, s_226_88, s_226_91, s_226_93, s_226_94, s_226_96, s_226_97, s_226_100, s_226_102, s_226_103, s_226_104, s_226_105, s_226_106, s_226_108, s_226_109, s_226_110, s_226_111, s_226_112, s_226_116, s_226_118, s_226_119, s_226_122, s_226_124, s_226_126, s_226_127, s_226_129, s_226_132, s_226_133, s_226_134, s_226_137, s_226_140, s_226_141, true_and, and_true, sc0, sc1, sc2, sc3, sc4, Option.toList, List.cons_append, List.nil_append, clr, ne_eq, not_false_eq_true, not_true_eq_false, false_and, and_false, true_or, or_true, or_false, false_or, forall_const, Nat.reduceEqDiff, List.length_nil, List.length_cons, Nat.zero_le, Nat.reduceAdd, Nat.reduceLeDiff, false_implies, true_implies, Int.reduceEq, Int.reduceNe, Int.reduceLT, Int.reduceLE, Int.reduceNeg, Int.reduceToNat, Int.toNat_natCast, Nat.reduceLT, and_self, Decidable.not_not, kR_1, kR_2, kR_3, kR_4, kR_5, kR_6, kR_7, kR_8, kR_9, kR_10, kR_11, kR_12, kR_13, kR_14, kR_15, kR_16, kR_17, kR_18, kR_19, kR_20, kR_21, kR_22, kR_23, pR_0, pR_5, pR_6, pR_8, pR_11, pR_16, pR_17, pR_18, pR_21, pR_22, pR_23, pR_24, pR_26, pR_28, pR_29, pR_30, pR_33, pR_34, pR_35, pR_38, pR_41, pR_42, pR_43, g1]
        refine hQ _ _ _ ⟨rfl, rfl, Or.inr ⟨rfl, ?_⟩⟩
        rintro ⟨x, a1, a2, a3, a4, a5, a6⟩
        exact hno x a1 (by omega) ⟨a3, a4, a5, a6⟩
      | succ m ihm =>
        intro f l5 l6 hf hff hno
        have g1 : ¬ (z : Int) ≤ (f : Int) := by omega
        have bf : (0 : Int) ≤ (f : Int) ∧ (f : Int) < ((36 : Nat) : Int) := by omega
        have en := EqW_i (w32n (show f < 1000000 by omega))
        obtain ⟨pf0, pf1⟩ := hpp f (by omega)
        have skip : ∀ l5 l6, ¬ (pp f = true ∧ f ≠ s ∧ f ≠ t ∧ ckP c z s t k (f + 1) (fun y => pp y && !decide (y = f))) → wpB (Ev d) 226 Q X 40 [some (pR 1), some (pI (i : Int)), some (pI (fr : Int)), some (pI ((k + 1 : Nat) : Int)), some (pI ((f + 1 : Nat) : Int)), l5, l6] [] (kz LR) (PR rd ru) N := fun l5 l6 hn => ihm (f + 1) l5 l6 (by omega) (by omega) (fun x h1 h2 => by
          by_cases e : x = f
          · subst e; exact hn
          · exact hno x h1 (by omega))
        rw [s_226_40]
        simp only [s_226_0, s_226_1, s_226_4, s_226_5, s_226_6, s_226_9, s_226_10, s_226_14, s_226_15, s_226_18, s_226_20, s_226_21, s_226_22, s_226_23, s_226_24, s_226_25, s_226_26, s_226_27, s_226_28, s_226_31, s_226_32, s_226_35, s_226_36, s_226_37, s_226_38, s_226_42, s_226_46, s_226_49, s_226_50, s_226_53, s_226_55, s_226_56, s_226_59, s_226_61, s_226_62, s_226_65, s_226_66, s_226_67, s_226_70, s_226_72, s_226_73, s_226_76, s_226_78, s_226_79, s_226_80, s_226_81, s_226_84, s_226_87, s_226_88, s_226_91, s_226_93, s_226_94, s_226_96, s_226_97, s_226_100, s_226_102, s_226_103, s_226_104, s_226_105, s_226_106, s_226_108, s_226_109, s_226_110, s_226_111, s_226_112, s_226_116, s_226_118, s_226_119, s_226_122, s_226_124, s_226_126, s_226_127, s_226_129, s_226_132, s_226_133, s_226_134, s_226_137, s_226_140, s_226_141, true_and, and_true, sc0, sc1, sc2, sc3, sc4, Option.toList, List.cons_append, List.nil_append, clr, ne_eq, not_false_eq_true, not_true_eq_false, false_and, and_false, true_or, or_true, or_false, false_or, forall_const, Nat.reduceEqDiff, List.length_nil, List.length_cons, Nat.zero_le, Nat.reduceAdd, Nat.reduceLeDiff, false_implies, true_implies, Int.reduceEq, Int.reduceNe, Int.reduceLT, Int.reduceLE, Int.reduceNeg, Int.reduceToNat, Int.toNat_natCast, Nat.reduceLT, and_self, Decidable.not_not, kR_1, kR_2, kR_3, kR_4, kR_5, kR_6, kR_7, kR_8, kR_9, kR_10, kR_11, kR_12, kR_13, kR_14, kR_15, kR_16, kR_17, kR_18, kR_19, kR_20, kR_21, kR_22, kR_23, pR_0, pR_5, pR_6, pR_8, pR_11, pR_16, pR_17, pR_18, pR_21, pR_22, pR_23, pR_24, pR_26, pR_28, pR_29, pR_30, pR_33, pR_34, pR_35, pR_38, pR_41, pR_42, pR_43]
        refine s_226_43 (Nat.le_of_ble_eq_true rfl) kR_1 (hfi d (by omega)) ?_
        by_cases c1 : N 10 f = 0
        · have := skip l5 l6 (fun w => by have := pf1.mpr w.1; omega)
          simp only [s_226_0, s_226_1, s_226_4, s_226_5, s_226_6, s_226_9, s_226_10, s_226_14, s_226_15, s_226_18, s_226_20, s_226_21, s_226_22, s_226_23, s_226_24, s_226_25, s_226_26, s_226_27, s_226_28, s_226_31, s_226_32, s_226_35, s_226_36, s_226_37, s_226_38, s_226_42, s_226_46, s_226_49, s_226_50, s_226_53, s_226_55, s_226_56, s_226_59, s_226_61, s_226_62, s_226_65, s_226_66, s_226_67, s_226_70, s_226_72, s_226_73, s_226_76, s_226_78, s_226_79, s_226_80, s_226_81, s_226_84, s_226_87, s_226_88, s_226_91, s_226_93, s_226_94, s_226_96, s_226_97, s_226_100, s_226_102, s_226_103, s_226_104, s_226_105, s_226_106, s_226_108, s_226_109, s_226_110, s_226_111, s_226_112, s_226_116, s_226_118, s_226_119, s_226_122, s_226_124, s_226_126, s_226_127, s_226_129, s_226_132, s_226_133, s_226_134, s_226_137, s_226_140, s_226_141, true_and, and_true, sc0, sc1, sc2, sc3, sc4, Option.toList, List.cons_append, List.nil_append, clr, ne_eq, not_false_eq_true, not_true_eq_false, false_and, and_false, true_or, or_true, or_false, false_or, forall_const, Nat.reduceEqDiff, List.length_nil, List.length_cons, Nat.zero_le, Nat.reduceAdd, Nat.reduceLeDiff, false_implies, true_implies, Int.reduceEq, Int.reduceNe, Int.reduceLT, Int.reduceLE, Int.reduceNeg, Int.reduceToNat, Int.toNat_natCast, Nat.reduceLT, and_self, Decidable.not_not, kR_1, kR_2, kR_3, kR_4, kR_5, kR_6, kR_7, kR_8, kR_9, kR_10, kR_11, kR_12, kR_13, kR_14, kR_15, kR_16, kR_17, kR_18, kR_19, kR_20, kR_21, kR_22, kR_23, pR_0, pR_5, pR_6, pR_8, pR_11, pR_16, pR_17, pR_18, pR_21, pR_22, pR_23, pR_24, pR_26, pR_28, pR_29, pR_30, pR_33, pR_34, pR_35, pR_38, pR_41, pR_42, pR_43, g1, bf, c1, EqW_o en]
          exact this
        have pf : pp f = true := pf1.mp (by omega)
        by_cases c2 : f = s
        · have := skip l5 l6 (fun w => w.2.1 c2)
          have c2' : ((f : Int) = (s : Int)) = True := eq_true (by omega)
          simp only [s_226_0, s_226_1, s_226_4, s_226_5, s_226_6, s_226_9, s_226_10, s_226_14, s_226_15, s_226_18, s_226_20, s_226_21, s_226_22, s_226_23, s_226_24, s_226_25, s_226_26, s_226_27, s_226_28, s_226_31, s_226_32, s_226_35, s_226_36, s_226_37, s_226_38, s_226_42, s_226_46, s_226_49, s_226_50, s_226_53, s_226_55, s_226_56, s_226_59, s_226_61, s_226_62, s_226_65, s_226_66, s_226_67, s_226_70, s_226_72, s_226_73, s_226_76, s_226_78, s_226_79, s_226_80, s_226_81, s_226_84, s_226_87, s_226_88, s_226_91, s_226_93, s_226_94, s_226_96, s_226_97, s_226_100, s_226_102, s_226_103, s_226_104, s_226_105, s_226_106, s_226_108, s_226_109, s_226_110, s_226_111, s_226_112, s_226_116, s_226_118, s_226_119, s_226_122, s_226_124, s_226_126, s_226_127, s_226_129, s_226_132, s_226_133, s_226_134, s_226_137, s_226_140, s_226_141, true_and, and_true, sc0, sc1, sc2, sc3, sc4, Option.toList, List.cons_append, List.nil_append, clr, ne_eq, not_false_eq_true, not_true_eq_false, false_and, and_false, true_or, or_true, or_false, false_or, forall_const, Nat.reduceEqDiff, List.length_nil, List.length_cons, Nat.zero_le, Nat.reduceAdd, Nat.reduceLeDiff, false_implies, true_implies, Int.reduceEq, Int.reduceNe, Int.reduceLT, Int.reduceLE, Int.reduceNeg, Int.reduceToNat, Int.toNat_natCast, Nat.reduceLT, and_self, Decidable.not_not, kR_1, kR_2, kR_3, kR_4, kR_5, kR_6, kR_7, kR_8, kR_9, kR_10, kR_11, kR_12, kR_13, kR_14, kR_15, kR_16, kR_17, kR_18, kR_19, kR_20, kR_21, kR_22, kR_23, pR_0, pR_5, pR_6, pR_8, pR_11, pR_16, pR_17, pR_18, pR_21, pR_22, pR_23, pR_24, pR_26, pR_28, pR_29, pR_30, pR_33, pR_34, pR_35, pR_38, pR_41, pR_42, pR_43, g1, bf, c1, bi, n3, c2', EqW_o en]
          exact this
        have c2' : ¬ (f : Int) = (s : Int) := by omega
        by_cases c3 : f = t
        · have := skip l5 l6 (fun w => w.2.2.1 c3)
          have c3' : ((f : Int) = (t : Int)) = True := eq_true (by omega)
          simp only [s_226_0, s_226_1, s_226_4, s_226_5, s_226_6, s_226_9, s_226_10, s_226_14, s_226_15, s_226_18, s_226_20, s_226_21, s_226_22, s_226_23, s_226_24, s_226_25, s_226_26, s_226_27, s_226_28, s_226_31, s_226_32, s_226_35, s_226_36, s_226_37, s_226_38, s_226_42, s_226_46, s_226_49, s_226_50, s_226_53, s_226_55, s_226_56, s_226_59, s_226_61, s_226_62, s_226_65, s_226_66, s_226_67, s_226_70, s_226_72, s_226_73, s_226_76, s_226_78, s_226_79, s_226_80, s_226_81, s_226_84, s_226_87, s_226_88, s_226_91, s_226_93, s_226_94, s_226_96, s_226_97, s_226_100, s_226_102, s_226_103, s_226_104, s_226_105, s_226_106, s_226_108, s_226_109, s_226_110, s_226_111, s_226_112, s_226_116, s_226_118, s_226_119, s_226_122, s_226_124, s_226_126, s_226_127, s_226_129, s_226_132, s_226_133, s_226_134, s_226_137, s_226_140, s_226_141, true_and, and_true, sc0, sc1, sc2, sc3, sc4, Option.toList, List.cons_append, List.nil_append, clr, ne_eq, not_false_eq_true, not_true_eq_false, false_and, and_false, true_or, or_true, or_false, false_or, forall_const, Nat.reduceEqDiff, List.length_nil, List.length_cons, Nat.zero_le, Nat.reduceAdd, Nat.reduceLeDiff, false_implies, true_implies, Int.reduceEq, Int.reduceNe, Int.reduceLT, Int.reduceLE, Int.reduceNeg, Int.reduceToNat, Int.toNat_natCast, Nat.reduceLT, and_self, Decidable.not_not, kR_1, kR_2, kR_3, kR_4, kR_5, kR_6, kR_7, kR_8, kR_9, kR_10, kR_11, kR_12, kR_13, kR_14, kR_15, kR_16, kR_17, kR_18, kR_19, kR_20, kR_21, kR_22, kR_23, pR_0, pR_5, pR_6, pR_8, pR_11, pR_16, pR_17, pR_18, pR_21, pR_22, pR_23, pR_24, pR_26, pR_28, pR_29, pR_30, pR_33, pR_34, pR_35, pR_38, pR_41, pR_42, pR_43, g1, bf, c1, bi, n3, c2', EqW_o eg, bg, n2, c3', EqW_o en]
          exact this
        have c3' : ¬ (f : Int) = (t : Int) := by omega
        obtain ⟨hh, hhe⟩ : ∃ h, N 10 f = h := ⟨_, rfl⟩
        obtain ⟨N1, hN1⟩ : ∃ J, J = uM N 10 f 0 := ⟨_, rfl⟩
        have back : uM N1 10 f hh = N := by
          funext o j
          rw [hN1, uM_at, uM_at]
          by_cases w1 : o = 10
          · subst w1
            simp only [if_true]
            by_cases w2 : j = f
            · rw [if_pos w2, w2, hhe]
            · rw [if_neg w2, if_neg w2]
          · rw [if_neg w1, if_neg w1]
        obtain ⟨x, P', N2, hE, rfl, hN2, hx⟩ := ih (by omega) (f + 1) (fun y => pp y && !decide (y = f)) N1 (by omega) (fun o ho => by rw [hN1, uM_ne ho]; exact hN o ho) (fun y hy => by
          rw [hN1, uM_at, if_pos rfl]
          by_cases e : y = f
          · rw [if_pos e]; simp [e]
          · rw [if_neg e]
            have := hpp y hy
            simp only [e, decide_false, Bool.not_false, Bool.and_true]
            exact this) d (by omega)
        rw [hN2] at hE
        have c1' : ¬ hh = 0 := by rw [← hhe]; exact c1
        simp only [s_226_0, s_226_1, s_226_4, s_226_5, s_226_6, s_226_9, s_226_10, s_226_14, s_226_15, s_226_18, s_226_20, s_226_21, s_226_22, s_226_23, s_226_24, s_226_25, s_226_26, s_226_27, s_226_28, s_226_31, s_226_32, s_226_35, s_226_36, s_226_37, s_226_38, s_226_42, s_226_46, s_226_49, s_226_50, s_226_53, s_226_55, s_226_56, s_226_59, s_226_61, s_226_62, s_226_65, s_226_66, s_226_67, s_226_70, s_226_72, s_226_73, s_226_76, s_226_78, s_226_79, s_226_80, s_226_81, s_226_84, s_226_87, s_226_88, s_226_91, s_226_93, s_226_94, s_226_96, s_226_97, s_226_100, s_226_102, s_226_103, s_226_104, s_226_105, s_226_106, s_226_108, s_226_109, s_226_110, s_226_111, s_226_112, s_226_116, s_226_118, s_226_119, s_226_122, s_226_124, s_226_126, s_226_127, s_226_129, s_226_132, s_226_133, s_226_134, s_226_137, s_226_140, s_226_141, true_and, and_true, sc0, sc1, sc2, sc3, sc4, Option.toList, List.cons_append, List.nil_append, clr, ne_eq, not_false_eq_true, not_true_eq_false, false_and, and_false, true_or, or_true, or_false, false_or, forall_const, Nat.reduceEqDiff, List.length_nil, List.length_cons, Nat.zero_le, Nat.reduceAdd, Nat.reduceLeDiff, false_implies, true_implies, Int.reduceEq, Int.reduceNe, Int.reduceLT, Int.reduceLE, Int.reduceNeg, Int.reduceToNat, Int.toNat_natCast, Nat.reduceLT, and_self, Decidable.not_not, kR_1, kR_2, kR_3, kR_4, kR_5, kR_6, kR_7, kR_8, kR_9, kR_10, kR_11, kR_12, kR_13, kR_14, kR_15, kR_16, kR_17, kR_18, kR_19, kR_20, kR_21, kR_22, kR_23, pR_0, pR_5, pR_6, pR_8, pR_11, pR_16, pR_17, pR_18, pR_21, pR_22, pR_23, pR_24, pR_26, pR_28, pR_29, pR_30, pR_33, pR_34, pR_35, pR_38, pR_41, pR_42, pR_43, g1, bf, hhe, c1', bi, n3, c2', EqW_o eg, bg, n2, c3', EqW_o en, EqW_o ek]
        rw [← hN1]
        refine s_226_113 (Nat.le_of_ble_eq_true rfl) kR_1 hE ?_
        rcases hx with ⟨rfl, hck⟩ | ⟨rfl, hck⟩
        · simp only [s_226_0, s_226_1, s_226_4, s_226_5, s_226_6, s_226_9, s_226_10, s_226_14, s_226_15, s_226_18, s_226_20, s_226_21, s_226_22, s_226_23, s_226_24, s_226_25, s_226_26, s_226_27, s_226_28, s_226_31, s_226_32, s_226_35, s_226_36, s_226_37, s_226_38, s_226_42, s_226_46, s_226_49, s_226_50, s_226_53, s_226_55, s_226_56, s_226_59, s_226_61, s_226_62, s_226_65, s_226_66, s_226_67, s_226_70, s_226_72, s_226_73, s_226_76, s_226_78, s_226_79, s_226_80, s_226_81, s_226_84, s_226_87, s_226_88, s_226_91, s_226_93, s_226_94, s_226_96, s_226_97, s_226_100, s_226_102, s_226_103, s_226_104, s_226_105, s_226_106, s_226_108, s_226_109, s_226_110, s_226_111, s_226_112, s_226_116, s_226_118, s_226_119, s_226_122, s_226_124, s_226_126, s_226_127, s_226_129, s_226_132, s_226_133, s_226_134, s_226_137, s_226_140, s_226_141, true_and, and_true, sc0, sc1, sc2, sc3, sc4, Option.toList, List.cons_append, List.nil_append, clr, ne_eq, not_false_eq_true, not_true_eq_false, false_and, and_false, true_or, or_true, or_false, false_or, forall_const, Nat.reduceEqDiff, List.length_nil, List.length_cons, Nat.zero_le, Nat.reduceAdd, Nat.reduceLeDiff, false_implies, true_implies, Int.reduceEq, Int.reduceNe, Int.reduceLT, Int.reduceLE, Int.reduceNeg, Int.reduceToNat, Int.toNat_natCast, Nat.reduceLT, and_self, Decidable.not_not, kR_1, kR_2, kR_3, kR_4, kR_5, kR_6, kR_7, kR_8, kR_9, kR_10, kR_11, kR_12, kR_13, kR_14, kR_15, kR_16, kR_17, kR_18, kR_19, kR_20, kR_21, kR_22, kR_23, pR_0, pR_5, pR_6, pR_8, pR_11, pR_16, pR_17, pR_18, pR_21, pR_22, pR_23, pR_24, pR_26, pR_28, pR_29, pR_30, pR_33, pR_34, pR_35, pR_38, pR_41, pR_42, pR_43, bf, back]
          exact hQ _ _ _ ⟨rfl, rfl, Or.inl ⟨rfl, f, hff, by omega, pf, c2, c3, hck⟩⟩
        · have := skip (some (pI hh)) (some (pI 0)) (fun w => hck w.2.2.2)
          simp only [s_226_0, s_226_1, s_226_4, s_226_5, s_226_6, s_226_9, s_226_10, s_226_14, s_226_15, s_226_18, s_226_20, s_226_21, s_226_22, s_226_23, s_226_24, s_226_25, s_226_26, s_226_27, s_226_28, s_226_31, s_226_32, s_226_35, s_226_36, s_226_37, s_226_38, s_226_42, s_226_46, s_226_49, s_226_50, s_226_53, s_226_55, s_226_56, s_226_59, s_226_61, s_226_62, s_226_65, s_226_66, s_226_67, s_226_70, s_226_72, s_226_73, s_226_76, s_226_78, s_226_79, s_226_80, s_226_81, s_226_84, s_226_87, s_226_88, s_226_91, s_226_93, s_226_94, s_226_96, s_226_97, s_226_100, s_226_102, s_226_103, s_226_104, s_226_105, s_226_106, s_226_108, s_226_109, s_226_110, s_226_111, s_226_112, s_226_116, s_226_118, s_226_119, s_226_122, s_226_124, s_226_126, s_226_127, s_226_129, s_226_132, s_226_133, s_226_134, s_226_137, s_226_140, s_226_141, true_and, and_true, sc0, sc1, sc2, sc3, sc4, Option.toList, List.cons_append, List.nil_append, clr, ne_eq, not_false_eq_true, not_true_eq_false, false_and, and_false, true_or, or_true, or_false, false_or, forall_const, Nat.reduceEqDiff, List.length_nil, List.length_cons, Nat.zero_le, Nat.reduceAdd, Nat.reduceLeDiff, false_implies, true_implies, Int.reduceEq, Int.reduceNe, Int.reduceLT, Int.reduceLE, Int.reduceNeg, Int.reduceToNat, Int.toNat_natCast, Nat.reduceLT, and_self, Decidable.not_not, kR_1, kR_2, kR_3, kR_4, kR_5, kR_6, kR_7, kR_8, kR_9, kR_10, kR_11, kR_12, kR_13, kR_14, kR_15, kR_16, kR_17, kR_18, kR_19, kR_20, kR_21, kR_22, kR_23, pR_0, pR_5, pR_6, pR_8, pR_11, pR_16, pR_17, pR_18, pR_21, pR_22, pR_23, pR_24, pR_26, pR_28, pR_29, pR_30, pR_33, pR_34, pR_35, pR_38, pR_41, pR_42, pR_43, bf, back, EqW_o en]
          exact this
    simp only [s_226_0, s_226_1, s_226_4, s_226_5, s_226_6, s_226_9, s_226_10, s_226_14, s_226_15, s_226_18, s_226_20, s_226_21, s_226_22, s_226_23, s_226_24, s_226_25, s_226_26, s_226_27, s_226_28, s_226_31, s_226_32, s_226_35, s_226_36, s_226_37, s_226_38, s_226_42, s_226_46, s_226_49, s_226_50, s_226_53, s_226_55, s_226_56, s_226_59, s_226_61, s_226_62, s_226_65, s_226_66, s_226_67, s_226_70, s_226_72, s_226_73, s_226_76, s_226_78, s_226_79, s_226_80, s_226_81, s_226_84, s_226_87, s_226_88, s_226_91, s_226_93, s_226_94, s_226_96, s_226_97, s_226_100, s_226_102, s_226_103, s_226_104, s_226_105, s_226_106, s_226_108, s_226_109, s_226_110, s_226_111, s_226_112, s_226_116, s_226_118, s_226_119, s_226_122, s_226_124, s_226_126, s_226_127, s_226_129, s_226_132, s_226_133, s_226_134, s_226_137, s_226_140, s_226_141, true_and, and_true, sc0, sc1, sc2, sc3, sc4, Option.toList, List.cons_append, List.nil_append, clr, ne_eq, not_false_eq_true, not_true_eq_false, false_and, and_false, true_or, or_true, or_false, false_or, forall_const, Nat.reduceEqDiff, List.length_nil, List.length_cons, Nat.zero_le, Nat.reduceAdd, Nat.reduceLeDiff, false_implies, true_implies, Int.reduceEq, Int.reduceNe, Int.reduceLT, Int.reduceLE, Int.reduceNeg, Int.reduceToNat, Int.toNat_natCast, Nat.reduceLT, and_self, Decidable.not_not, kR_1, kR_2, kR_3, kR_4, kR_5, kR_6, kR_7, kR_8, kR_9, kR_10, kR_11, kR_12, kR_13, kR_14, kR_15, kR_16, kR_17, kR_18, kR_19, kR_20, kR_21, kR_22, kR_23, pR_0, pR_5, pR_6, pR_8, pR_11, pR_16, pR_17, pR_18, pR_21, pR_22, pR_23, pR_24, pR_26, pR_28, pR_29, pR_30, pR_33, pR_34, pR_35, pR_38, pR_41, pR_42, pR_43, k0]
    exact main (z - fr) fr none none (by omega) (Nat.le_refl _) (fun x h1 h2 => by omega)
end
