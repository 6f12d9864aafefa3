/-! the class reads a rule as the automaton does -/
theorem stk_same {N N' : MM} {a : Nat} (h : N' a = N a) : ∀ {t : List Int}, stk N a t → stk N' a t
  | [], _ => trivial
  | x :: t, q => ⟨by rw [h]; exact q.1, stk_same h q.2⟩
section
variable {M : MM} {b : Bool} {q : Nat}
theorem c_hold {x : Int} {n : Nat} (hq : ruQ q) (hn : M q 4 = (n : Int)) (h40 : n < 40) (hx : 0 ≤ x ∧ x < 65536) : Ct 1 15 [pR q, pI x] LC (PC b) M none (PC b) (uM (uM M (q + 3) n x) q 4 ((n + 1 : Nat) : Int)) := by
  refine Ct_r [some (pR q), some (pI x)] (Nat.le_of_ble_eq_true rfl) rfl (fun d hd Q X hQ => ?_)
  have e0 : ¬ ((40 : Nat) : Int) ≤ (n : Int) := by omega
  have b0 : (0 : Int) ≤ (n : Int) := by omega
  have b1 : (n : Int) < ((40 : Nat) : Int) := by omega
  have n1 : ¬ q = q + 3 := by omega
  have n0 : ¬ q + 3 = 0 := by omega
  have en := EqW_i (w32n (show n < 1000000 by omega))
  simp only [s_15_0, s_15_1, s_15_4, s_15_5, s_15_8, s_15_9, s_15_12, s_15_13, s_15_16, s_15_17, s_15_20, s_15_21, s_15_22, s_15_23I, s_15_23, s_15_24, s_15_27, s_15_28, s_15_29, s_15_32, true_and, and_true, sc0, sc1, sc2, sc3, sc4, Option.toList, List.cons_append, List.nil_append, clr, ne_eq, not_false_eq_true, not_true_eq_false, false_and, and_false, true_or, or_true, or_false, false_or, forall_const, Nat.reduceEqDiff, List.length_nil, List.length_cons, Nat.zero_le, Nat.reduceAdd, Nat.reduceLeDiff, false_implies, true_implies, Int.reduceEq, Int.reduceNe, Int.reduceLT, Int.reduceLE, Int.reduceNeg, Int.reduceToNat, Int.toNat_natCast, Nat.reduceLT, and_self, Decidable.not_not, kC_0, kC_1, kC_2, kC_3, kC_4, kC_5, kC_6, kC_7, kC_8, kC_9, kC_10, kC_11, kC_12, kC_13, kC_14, kC_15, kC_16, kC_17, kC_18, kC_19, kC_20, kC_21, kC_22, kC_23, kC_24, kC_25, kC_26, kC_27, kC_28, kC_29, kC_30, kC_31, kC_32, kC_145, kC_146, kC_147, kC_148, kC_149, kC_150, kC_151, kC_164, kC_165, kC_166, kC_167, kC_168, kC_169, kC_170, kC_171, kC_172, kC_173, kC_174, kC_175, kC_176, kC_177, kC_178, kC_179, kC_180, kC_181, kC_182, kC_183, kC_184, pC_1_0, pC_1_2, pC_1_3, pC_1_4, pC_1_5, pC_1_6, pC_1_7, pC_1_8, pC_1_9, pC_1_10, pC_1_11, pC_3_5, pC_5_0, pC_5_1, pC_5_2, pC_5_6, pC_5_7, pC_5_8, pC_5_9, pC_5_10, pC_13_0, pC_13_1, pC_13_2, pC_13_6, pC_13_7, pC_13_8, pC_13_9, pC_13_10, pC_21_0, pC_21_1, pC_21_2, pC_21_6, pC_21_7, pC_21_8, pC_21_9, pC_21_10, pC_29_0, pC_29_1, pC_29_2, pC_145_0, pC_145_1, pC_145_2, pC_145_3, pC_145_4, pC_149_0, pC_149_1, pC_149_2, pC_164_1, pC_164_2, pC_164_3, pC_168_0, pC_168_3, pC_168_4, pC_168_5, pC_172_0, pC_175_0, pC_175_2, pC_175_3, pC_175_5, pC_180_0, pC_180_2, pC_180_3, pC_180_5, ru_k hq, ru_k3 hq, ru_p3 hq, hn, e0, b0, b1, n0, n1, hx.1, hx.2, uM_at, if_true, if_false, (EqW_o en)]
  exact hQ
theorem c_emit {x : Int} {n : Nat} (hq : ruQ q) (hn : M q 1 = (n : Int)) (h40 : n < 40) : Ct 1 17 [pR q, pI x] LC (PC b) M none (PC b) (uM (uM M (q + 1) n x) q 1 ((n + 1 : Nat) : Int)) := by
  refine Ct_r [some (pR q), some (pI x)] (Nat.le_of_ble_eq_true rfl) rfl (fun d hd Q X hQ => ?_)
  have e0 : ¬ ((40 : Nat) : Int) ≤ (n : Int) := by omega
  have b0 : (0 : Int) ≤ (n : Int) := by omega
  have b1 : (n : Int) < ((40 : Nat) : Int) := by omega
  have n1 : ¬ q = q + 1 := by omega
  have n0 : ¬ q + 1 = 0 := by omega
  have en := EqW_i (w32n (show n < 1000000 by omega))
  simp only [s_17_0, s_17_1, s_17_4, s_17_5, s_17_8, s_17_9, s_17_12, s_17_13, s_17_16, s_17_17, s_17_20, s_17_21, s_17_22, s_17_23I, s_17_23, s_17_24, s_17_27, s_17_28, s_17_29, s_17_32, true_and, and_true, sc0, sc1, sc2, sc3, sc4, Option.toList, List.cons_append, List.nil_append, clr, ne_eq, not_false_eq_true, not_true_eq_false, false_and, and_false, true_or, or_true, or_false, false_or, forall_const, Nat.reduceEqDiff, List.length_nil, List.length_cons, Nat.zero_le, Nat.reduceAdd, Nat.reduceLeDiff, false_implies, true_implies, Int.reduceEq, Int.reduceNe, Int.reduceLT, Int.reduceLE, Int.reduceNeg, Int.reduceToNat, Int.toNat_natCast, Nat.reduceLT, and_self, Decidable.not_not, kC_0, kC_1, kC_2, kC_3, kC_4, kC_5, kC_6, kC_7, kC_8, kC_9, kC_10, kC_11, kC_12, kC_13, kC_14, kC_15, kC_16, kC_17, kC_18, kC_19, kC_20, kC_21, kC_22, kC_23, kC_24, kC_25, kC_26, kC_27, kC_28, kC_29, kC_30, kC_31, kC_32, kC_145, kC_146, kC_147, kC_148, kC_149, kC_150, kC_151, kC_164, kC_165, kC_166, kC_167, kC_168, kC_169, kC_170, kC_171, kC_172, kC_173, kC_174, kC_175, kC_176, kC_177, kC_178, kC_179, kC_180, kC_181, kC_182, kC_183, kC_184, pC_1_0, pC_1_2, pC_1_3, pC_1_4, pC_1_5, pC_1_6, pC_1_7, pC_1_8, pC_1_9, pC_1_10, pC_1_11, pC_3_5, pC_5_0, pC_5_1, pC_5_2, pC_5_6, pC_5_7, pC_5_8, pC_5_9, pC_5_10, pC_13_0, pC_13_1, pC_13_2, pC_13_6, pC_13_7, pC_13_8, pC_13_9, pC_13_10, pC_21_0, pC_21_1, pC_21_2, pC_21_6, pC_21_7, pC_21_8, pC_21_9, pC_21_10, pC_29_0, pC_29_1, pC_29_2, pC_145_0, pC_145_1, pC_145_2, pC_145_3, pC_145_4, pC_149_0, pC_149_1, pC_149_2, pC_164_1, pC_164_2, pC_164_3, pC_168_0, pC_168_3, pC_168_4, pC_168_5, pC_172_0, pC_175_0, pC_175_2, pC_175_3, pC_175_5, pC_180_0, pC_180_2, pC_180_3, pC_180_5, ru_k hq, ru_k1 hq, ru_p0 hq, hn, e0, b0, b1, n0, n1, uM_at, if_true, if_false, (EqW_o en)]
  exact hQ
/-- the two piles -/
def RlP (M M' : MM) (q : Nat) (c w : List Int) : Prop := M' q 1 = (c.length : Int) ∧ stk M' (q + 1) c.reverse ∧ M' q 4 = (w.length : Int) ∧ stk M' (q + 3) w ∧ (∀ k, k ≠ 1 → k ≠ 4 → M' q k = M q k) ∧ same M' M [q, q + 1]
theorem yRel_len {bb : Int} : ∀ (w code : List Int), (yRel bb code w).1.length + (yRel bb code w).2.length = code.length + w.length
  | [], code => rfl
  | s :: w, code => by
    unfold yRel
    split
    · rfl
    · rw [yRel_len w (code ++ [-s])]; simp; omega
theorem yRel_mem {bb : Int} : ∀ (w code : List Int), (∀ x, x ∈ (yRel bb code w).1 → x ∈ code ∨ ∃ y, y ∈ w ∧ x = -y) ∧ (∀ x, x ∈ (yRel bb code w).2 → x ∈ w)
  | [], code => ⟨fun x h => Or.inl h, fun x h => h⟩
  | s :: w, code => by
    unfold yRel
    split
    · exact ⟨fun x h => Or.inl h, fun x h => h⟩
    · obtain ⟨h1, h2⟩ := yRel_mem w (code ++ [-s])
      refine ⟨fun x h => ?_, fun x h => List.mem_cons_of_mem _ (h2 x h)⟩
      rcases h1 x h with q | ⟨y, q1, q2⟩
      · rcases List.mem_append.mp q with q | q
        · exact Or.inl q
        · exact Or.inr ⟨s, by simp, by simpa using q⟩
      · exact Or.inr ⟨y, List.mem_cons_of_mem _ q1, q2⟩
theorem c_release {bb : Int} {code w : List Int} (hq : ruQ q) (h1 : M q 1 = (code.length : Int)) (h2 : stk M (q + 1) code.reverse) (h3 : M q 4 = (w.length : Int)) (h4 : stk M (q + 3) w) (hl : code.length + w.length ≤ 40) (hw : ∀ x, x ∈ w → 0 ≤ x ∧ x < 256) : Cw 2 21 [pR q, pI bb] LC (PC b) M (fun v P' M' => v = none ∧ P' = PC b ∧ RlP M M' q (yRel bb code w).1 (yRel bb code w).2) := by
  refine Cw_k [some (pR q), some (pI bb), none] (Nat.le_of_ble_eq_true rfl) rfl (fun d hd Q X hQ => ?_)
  have key : ∀ (w code : List Int) (N : MM) (x2 : Option PV), N q 1 = (code.length : Int) → stk N (q + 1) code.reverse → N q 4 = (w.length : Int) → stk N (q + 3) w → code.length + w.length ≤ 40 → (∀ x, x ∈ w → 0 ≤ x ∧ x < 256) → (∀ k, k ≠ 1 → k ≠ 4 → N q k = M q k) → same N M [q, q + 1] → (∀ r P' M', r = none ∧ P' = PC b ∧ RlP M M' q (yRel bb code w).1 (yRel bb code w).2 → Q r (kz LC) P' M') → wpB (Ev d) 21 Q X 0 [some (pR q), some (pI bb), x2] [] (kz LC) (PC b) N := by
    intro w
    induction w with
    | nil =>
      intro code N x2 a1 a2 a3 a4 a5 a6 a7 a8 hF
      have e : N q 4 ≤ 0 := by rw [a3]; exact Int.le_refl _
      rw [s_21_0]
      simp only [s_21_1, s_21_4, s_21_7, s_21_8, s_21_11, s_21_12, s_21_15, s_21_16, s_21_17, s_21_18, s_21_19, s_21_20, s_21_22, s_21_25, s_21_29, s_21_30, s_21_33, s_21_34, s_21_35, s_21_36, s_21_40, s_21_41I, s_21_41, s_21_42, s_21_45, s_21_46, s_21_47, s_21_50, s_21_53, true_and, and_true, sc0, sc1, sc2, sc3, sc4, Option.toList, List.cons_append, List.nil_append, clr, ne_eq, not_false_eq_true, not_true_eq_false, false_and, and_false, true_or, or_true, or_false, false_or, forall_const, Nat.reduceEqDiff, List.length_nil, List.length_cons, Nat.zero_le, Nat.reduceAdd, Nat.reduceLeDiff, false_implies, true_implies, Int.reduceEq, Int.reduceNe, Int.reduceLT, Int.reduceLE, Int.reduceNeg, Int.reduceToNat, Int.toNat_natCast, Nat.reduceLT, and_self, Decidable.not_not, kC_0, kC_1, kC_2, kC_3, kC_4, kC_5, kC_6, kC_7, kC_8, kC_9, kC_10, kC_11, kC_12, kC_13, kC_14, kC_15, kC_16, kC_17, kC_18, kC_19, kC_20, kC_21, kC_22, kC_23, kC_24, kC_25, kC_26, kC_27, kC_28, kC_29, kC_30, kC_31, kC_32, kC_145, kC_146, kC_147, kC_148, kC_149, kC_150, kC_151, kC_164, kC_165, kC_166, kC_167, kC_168, kC_169, kC_170, kC_171, kC_172, kC_173, kC_174, kC_175, kC_176, kC_177, kC_178, kC_179, kC_180, kC_181, kC_182, kC_183, kC_184, pC_1_0, pC_1_2, pC_1_3, pC_1_4, pC_1_5, pC_1_6, pC_1_7, pC_1_8, pC_1_9, pC_1_10, pC_1_11, pC_3_5, pC_5_0, pC_5_1, pC_5_2, pC_5_6, pC_5_7, pC_5_8, pC_5_9, pC_5_10, pC_13_0, pC_13_1, pC_13_2, pC_13_6, pC_13_7, pC_13_8, pC_13_9, pC_13_10, pC_21_0, pC_21_1, pC_21_2, pC_21_6, pC_21_7, pC_21_8, pC_21_9, pC_21_10, pC_29_0, pC_29_1, pC_29_2, pC_145_0, pC_145_1, pC_145_2, pC_145_3, pC_145_4, pC_149_0, pC_149_1, pC_149_2, pC_164_1, pC_164_2, pC_164_3, pC_168_0, pC_168_3, pC_168_4, pC_168_5, pC_172_0, pC_175_0, pC_175_2, pC_175_3, pC_175_5, pC_180_0, pC_180_2, pC_180_3, pC_180_5, ru_k hq, e]
      exact hF _ _ _ ⟨rfl, rfl, a1, a2, a3, a4, a7, a8⟩
    | cons x w ih =>
      intro code N x2 a1 a2 a3 a4 a5 a6 a7 a8 hF
      have hl' : code.length + (w.length + 1) ≤ 40 := a5
      have e : ¬ ((w.length + 1 : Nat) : Int) ≤ 0 := by omega
      have e1 : EqW (w32 (((w.length + 1 : Nat) : Int) - 1)) ((w.length : Int)) := EqW_i <| by unfold w32; omega
      have b0 : (0 : Int) ≤ (w.length : Int) := by omega
      have b1 : (w.length : Int) < ((40 : Nat) : Int) := by omega
      have a3' : N q 4 = ((w.length + 1 : Nat) : Int) := a3
      have ex : N (q + 3) w.length = x := a4.1
      have n0 : ¬ q + 3 = 0 := by omega
      have hx := a6 x (by simp)
      have go : ¬ (x ≠ 126 ∧ bnd x < bb) → wpB (Ev d) 21 Q X 34 [some (pR q), some (pI bb), some (pI x)] [] (kz LC) (PC b) N := by
        intro hno
        have hF' : ∀ r P' M', r = none ∧ P' = PC b ∧ RlP M M' q (yRel bb (code ++ [-x]) w).1 (yRel bb (code ++ [-x]) w).2 → Q r (kz LC) P' M' := by
          intro r P' M' h
          apply hF
          unfold yRel
          rw [if_neg hno]
          exact h
        have ez : EqW (w32 (-x)) (-x) := EqW_i <| w32s (by omega)
        simp only [s_21_1, s_21_4, s_21_7, s_21_8, s_21_11, s_21_12, s_21_15, s_21_16, s_21_17, s_21_18, s_21_19, s_21_20, s_21_22, s_21_25, s_21_29, s_21_30, s_21_33, s_21_34, s_21_35, s_21_36, s_21_40, s_21_41I, s_21_41, s_21_42, s_21_45, s_21_46, s_21_47, s_21_50, s_21_53, true_and, and_true, sc0, sc1, sc2, sc3, sc4, Option.toList, List.cons_append, List.nil_append, clr, ne_eq, not_false_eq_true, not_true_eq_false, false_and, and_false, true_or, or_true, or_false, false_or, forall_const, Nat.reduceEqDiff, List.length_nil, List.length_cons, Nat.zero_le, Nat.reduceAdd, Nat.reduceLeDiff, false_implies, true_implies, Int.reduceEq, Int.reduceNe, Int.reduceLT, Int.reduceLE, Int.reduceNeg, Int.reduceToNat, Int.toNat_natCast, Nat.reduceLT, and_self, Decidable.not_not, kC_0, kC_1, kC_2, kC_3, kC_4, kC_5, kC_6, kC_7, kC_8, kC_9, kC_10, kC_11, kC_12, kC_13, kC_14, kC_15, kC_16, kC_17, kC_18, kC_19, kC_20, kC_21, kC_22, kC_23, kC_24, kC_25, kC_26, kC_27, kC_28, kC_29, kC_30, kC_31, kC_32, kC_145, kC_146, kC_147, kC_148, kC_149, kC_150, kC_151, kC_164, kC_165, kC_166, kC_167, kC_168, kC_169, kC_170, kC_171, kC_172, kC_173, kC_174, kC_175, kC_176, kC_177, kC_178, kC_179, kC_180, kC_181, kC_182, kC_183, kC_184, pC_1_0, pC_1_2, pC_1_3, pC_1_4, pC_1_5, pC_1_6, pC_1_7, pC_1_8, pC_1_9, pC_1_10, pC_1_11, pC_3_5, pC_5_0, pC_5_1, pC_5_2, pC_5_6, pC_5_7, pC_5_8, pC_5_9, pC_5_10, pC_13_0, pC_13_1, pC_13_2, pC_13_6, pC_13_7, pC_13_8, pC_13_9, pC_13_10, pC_21_0, pC_21_1, pC_21_2, pC_21_6, pC_21_7, pC_21_8, pC_21_9, pC_21_10, pC_29_0, pC_29_1, pC_29_2, pC_145_0, pC_145_1, pC_145_2, pC_145_3, pC_145_4, pC_149_0, pC_149_1, pC_149_2, pC_164_1, pC_164_2, pC_164_3, pC_168_0, pC_168_3, pC_168_4, pC_168_5, pC_172_0, pC_175_0, pC_175_2, pC_175_3, pC_175_5, pC_180_0, pC_180_2, pC_180_3, pC_180_5, (EqW_o ez)]
        refine s_21_37 (Nat.le_of_ble_eq_true rfl) (ru_k hq) (c_emit hq a1 (by omega) d (by omega)) ?_
        have e4 : uM (uM N (q + 1) code.length (-x)) q 1 ((code.length + 1 : Nat) : Int) q 4 = ((w.length + 1 : Nat) : Int) := by
          rw [uM_at, if_pos rfl, if_neg (by decide), uM_ne (by omega)]; exact a3
        simp only [s_21_1, s_21_4, s_21_7, s_21_8, s_21_11, s_21_12, s_21_15, s_21_16, s_21_17, s_21_18, s_21_19, s_21_20, s_21_22, s_21_25, s_21_29, s_21_30, s_21_33, s_21_34, s_21_35, s_21_36, s_21_40, s_21_41I, s_21_41, s_21_42, s_21_45, s_21_46, s_21_47, s_21_50, s_21_53, true_and, and_true, sc0, sc1, sc2, sc3, sc4, Option.toList, List.cons_append, List.nil_append, clr, ne_eq, not_false_eq_true, not_true_eq_false, false_and, and_false, true_or, or_true, or_false, false_or, forall_const, Nat.reduceEqDiff, List.length_nil, List.length_cons, Nat.zero_le, Nat.reduceAdd, Nat.reduceLeDiff, false_implies, true_implies, Int.reduceEq, Int.reduceNe, Int.reduceLT, Int.reduceLE, Int.reduceNeg, Int.reduceToNat, Int.toNat_natCast, Nat.reduceLT, and_self, Decidable.not_not, kC_0, kC_1, kC_2, kC_3, kC_4, kC_5, kC_6, kC_7, kC_8, kC_9, kC_10, kC_11, kC_12, kC_13, kC_14, kC_15, kC_16, kC_17, kC_18, kC_19, kC_20, kC_21, kC_22, kC_23, kC_24, kC_25, kC_26, kC_27, kC_28, kC_29, kC_30, kC_31, kC_32, kC_145, kC_146, kC_147, kC_148, kC_149, kC_150, kC_151, kC_164, kC_165, kC_166, kC_167, kC_168, kC_169, kC_170, kC_171, kC_172, kC_173, kC_174, kC_175, kC_176, kC_177, kC_178, kC_179, kC_180, kC_181, kC_182, kC_183, kC_184, pC_1_0, pC_1_2, pC_1_3, pC_1_4, pC_1_5, pC_1_6, pC_1_7, pC_1_8, pC_1_9, pC_1_10, pC_1_11, pC_3_5, pC_5_0, pC_5_1, pC_5_2, pC_5_6, pC_5_7, pC_5_8, pC_5_9, pC_5_10, pC_13_0, pC_13_1, pC_13_2, pC_13_6, pC_13_7, pC_13_8, pC_13_9, pC_13_10, pC_21_0, pC_21_1, pC_21_2, pC_21_6, pC_21_7, pC_21_8, pC_21_9, pC_21_10, pC_29_0, pC_29_1, pC_29_2, pC_145_0, pC_145_1, pC_145_2, pC_145_3, pC_145_4, pC_149_0, pC_149_1, pC_149_2, pC_164_1, pC_164_2, pC_164_3, pC_168_0, pC_168_3, pC_168_4, pC_168_5, pC_172_0, pC_175_0, pC_175_2, pC_175_3, pC_175_5, pC_180_0, pC_180_2, pC_180_3, pC_180_5, ru_k hq, e4, (EqW_o e1)]
        refine ih (code ++ [-x]) _ _ ?_ ?_ ?_ ?_ (by simp; omega) (fun y hy => a6 y (by simp [hy])) (fun k k1 k4 => ?_) (same_u (same_u (same_u a8 (by simp)) (by simp)) (by simp)) hF'
        · rw [uM_at, if_pos rfl, if_neg (by decide), uM_at, if_pos rfl, if_pos rfl]; simp
        · rw [List.reverse_append]
          refine ⟨?_, ?_⟩
          · rw [uM_ne (by omega), uM_ne (by omega), uM_at, if_pos rfl]
            simp
          · refine stk_same (N := uM N (q + 1) code.length (-x)) ?_ (stk_u (by simp) a2)
            rw [uM_ne (by omega), uM_ne (by omega)]
        · rw [uM_at, if_pos rfl, if_pos rfl]
        · exact stk_same (by rw [uM_ne (by omega), uM_ne (by omega), uM_ne (by omega)]) a4.2
        · rw [uM_at, if_pos rfl, if_neg k4, uM_at, if_pos rfl, if_neg k1, uM_ne (by omega)]
          exact a7 k k1 k4
      rw [s_21_0]
      by_cases c1 : x = 126
      · simp only [s_21_1, s_21_4, s_21_7, s_21_8, s_21_11, s_21_12, s_21_15, s_21_16, s_21_17, s_21_18, s_21_19, s_21_20, s_21_22, s_21_25, s_21_29, s_21_30, s_21_33, s_21_35, s_21_36, s_21_40, s_21_41I, s_21_41, s_21_42, s_21_45, s_21_46, s_21_47, s_21_50, s_21_53, true_and, and_true, sc0, sc1, sc2, sc3, sc4, Option.toList, List.cons_append, List.nil_append, clr, ne_eq, not_false_eq_true, not_true_eq_false, false_and, and_false, true_or, or_true, or_false, false_or, forall_const, Nat.reduceEqDiff, List.length_nil, List.length_cons, Nat.zero_le, Nat.reduceAdd, Nat.reduceLeDiff, false_implies, true_implies, Int.reduceEq, Int.reduceNe, Int.reduceLT, Int.reduceLE, Int.reduceNeg, Int.reduceToNat, Int.toNat_natCast, Nat.reduceLT, and_self, Decidable.not_not, kC_0, kC_1, kC_2, kC_3, kC_4, kC_5, kC_6, kC_7, kC_8, kC_9, kC_10, kC_11, kC_12, kC_13, kC_14, kC_15, kC_16, kC_17, kC_18, kC_19, kC_20, kC_21, kC_22, kC_23, kC_24, kC_25, kC_26, kC_27, kC_28, kC_29, kC_30, kC_31, kC_32, kC_145, kC_146, kC_147, kC_148, kC_149, kC_150, kC_151, kC_164, kC_165, kC_166, kC_167, kC_168, kC_169, kC_170, kC_171, kC_172, kC_173, kC_174, kC_175, kC_176, kC_177, kC_178, kC_179, kC_180, kC_181, kC_182, kC_183, kC_184, pC_1_0, pC_1_2, pC_1_3, pC_1_4, pC_1_5, pC_1_6, pC_1_7, pC_1_8, pC_1_9, pC_1_10, pC_1_11, pC_3_5, pC_5_0, pC_5_1, pC_5_2, pC_5_6, pC_5_7, pC_5_8, pC_5_9, pC_5_10, pC_13_0, pC_13_1, pC_13_2, pC_13_6, pC_13_7, pC_13_8, pC_13_9, pC_13_10, pC_21_0, pC_21_1, pC_21_2, pC_21_6, pC_21_7, pC_21_8, pC_21_9, pC_21_10, pC_29_0, pC_29_1, pC_29_2, pC_145_0, pC_145_1, pC_145_2, pC_145_3, pC_145_4, pC_149_0, pC_149_1, pC_149_2, pC_164_1, pC_164_2, pC_164_3, pC_168_0, pC_168_3, pC_168_4, pC_168_5, pC_172_0, pC_175_0, pC_175_2, pC_175_3, pC_175_5, pC_180_0, pC_180_2, pC_180_3, pC_180_5, ru_k hq, ru_p3 hq, ru_k3 hq, n0, a3', e, (EqW_o e1), b0, b1, ex, c1]
        have := go (fun h => h.1 c1)
        rw [c1] at this
        exact this
      · simp only [s_21_1, s_21_4, s_21_7, s_21_8, s_21_11, s_21_12, s_21_15, s_21_16, s_21_17, s_21_18, s_21_19, s_21_20, s_21_22, s_21_25, s_21_29, s_21_30, s_21_33, s_21_35, s_21_36, s_21_40, s_21_41I, s_21_41, s_21_42, s_21_45, s_21_46, s_21_47, s_21_50, s_21_53, true_and, and_true, sc0, sc1, sc2, sc3, sc4, Option.toList, List.cons_append, List.nil_append, clr, ne_eq, not_false_eq_true, not_true_eq_false, false_and, and_false, true_or, or_true, or_false, false_or, forall_const, Nat.reduceEqDiff, List.length_nil, List.length_cons, Nat.zero_le, Nat.reduceAdd, Nat.reduceLeDiff, false_implies, true_implies, Int.reduceEq, Int.reduceNe, Int.reduceLT, Int.reduceLE, Int.reduceNeg, Int.reduceToNat, Int.toNat_natCast, Nat.reduceLT, and_self, Decidable.not_not, kC_0, kC_1, kC_2, kC_3, kC_4, kC_5, kC_6, kC_7, kC_8, kC_9, kC_10, kC_11, kC_12, kC_13, kC_14, kC_15, kC_16, kC_17, kC_18, kC_19, kC_20, kC_21, kC_22, kC_23, kC_24, kC_25, kC_26, kC_27, kC_28, kC_29, kC_30, kC_31, kC_32, kC_145, kC_146, kC_147, kC_148, kC_149, kC_150, kC_151, kC_164, kC_165, kC_166, kC_167, kC_168, kC_169, kC_170, kC_171, kC_172, kC_173, kC_174, kC_175, kC_176, kC_177, kC_178, kC_179, kC_180, kC_181, kC_182, kC_183, kC_184, pC_1_0, pC_1_2, pC_1_3, pC_1_4, pC_1_5, pC_1_6, pC_1_7, pC_1_8, pC_1_9, pC_1_10, pC_1_11, pC_3_5, pC_5_0, pC_5_1, pC_5_2, pC_5_6, pC_5_7, pC_5_8, pC_5_9, pC_5_10, pC_13_0, pC_13_1, pC_13_2, pC_13_6, pC_13_7, pC_13_8, pC_13_9, pC_13_10, pC_21_0, pC_21_1, pC_21_2, pC_21_6, pC_21_7, pC_21_8, pC_21_9, pC_21_10, pC_29_0, pC_29_1, pC_29_2, pC_145_0, pC_145_1, pC_145_2, pC_145_3, pC_145_4, pC_149_0, pC_149_1, pC_149_2, pC_164_1, pC_164_2, pC_164_3, pC_168_0, pC_168_3, pC_168_4, pC_168_5, pC_172_0, pC_175_0, pC_175_2, pC_175_3, pC_175_5, pC_180_0, pC_180_2, pC_180_3, pC_180_5, ru_k hq, ru_p3 hq, ru_k3 hq, n0, a3', e, (EqW_o e1), b0, b1, ex, c1]
        refine s_21_26 (Nat.le_of_ble_eq_true rfl) (c_bindingOf d (by omega)) ?_
        by_cases c2 : bb ≤ bnd x
        · simp only [s_21_1, s_21_4, s_21_7, s_21_8, s_21_11, s_21_12, s_21_15, s_21_16, s_21_17, s_21_18, s_21_19, s_21_20, s_21_22, s_21_25, s_21_29, s_21_30, s_21_33, s_21_35, s_21_36, s_21_40, s_21_41I, s_21_41, s_21_42, s_21_45, s_21_46, s_21_47, s_21_50, s_21_53, true_and, and_true, sc0, sc1, sc2, sc3, sc4, Option.toList, List.cons_append, List.nil_append, clr, ne_eq, not_false_eq_true, not_true_eq_false, false_and, and_false, true_or, or_true, or_false, false_or, forall_const, Nat.reduceEqDiff, List.length_nil, List.length_cons, Nat.zero_le, Nat.reduceAdd, Nat.reduceLeDiff, false_implies, true_implies, Int.reduceEq, Int.reduceNe, Int.reduceLT, Int.reduceLE, Int.reduceNeg, Int.reduceToNat, Int.toNat_natCast, Nat.reduceLT, and_self, Decidable.not_not, kC_0, kC_1, kC_2, kC_3, kC_4, kC_5, kC_6, kC_7, kC_8, kC_9, kC_10, kC_11, kC_12, kC_13, kC_14, kC_15, kC_16, kC_17, kC_18, kC_19, kC_20, kC_21, kC_22, kC_23, kC_24, kC_25, kC_26, kC_27, kC_28, kC_29, kC_30, kC_31, kC_32, kC_145, kC_146, kC_147, kC_148, kC_149, kC_150, kC_151, kC_164, kC_165, kC_166, kC_167, kC_168, kC_169, kC_170, kC_171, kC_172, kC_173, kC_174, kC_175, kC_176, kC_177, kC_178, kC_179, kC_180, kC_181, kC_182, kC_183, kC_184, pC_1_0, pC_1_2, pC_1_3, pC_1_4, pC_1_5, pC_1_6, pC_1_7, pC_1_8, pC_1_9, pC_1_10, pC_1_11, pC_3_5, pC_5_0, pC_5_1, pC_5_2, pC_5_6, pC_5_7, pC_5_8, pC_5_9, pC_5_10, pC_13_0, pC_13_1, pC_13_2, pC_13_6, pC_13_7, pC_13_8, pC_13_9, pC_13_10, pC_21_0, pC_21_1, pC_21_2, pC_21_6, pC_21_7, pC_21_8, pC_21_9, pC_21_10, pC_29_0, pC_29_1, pC_29_2, pC_145_0, pC_145_1, pC_145_2, pC_145_3, pC_145_4, pC_149_0, pC_149_1, pC_149_2, pC_164_1, pC_164_2, pC_164_3, pC_168_0, pC_168_3, pC_168_4, pC_168_5, pC_172_0, pC_175_0, pC_175_2, pC_175_3, pC_175_5, pC_180_0, pC_180_2, pC_180_3, pC_180_5, c2]
          exact go (fun h => by omega)
        · simp only [s_21_1, s_21_4, s_21_7, s_21_8, s_21_11, s_21_12, s_21_15, s_21_16, s_21_17, s_21_18, s_21_19, s_21_20, s_21_22, s_21_25, s_21_29, s_21_30, s_21_33, s_21_35, s_21_36, s_21_40, s_21_41I, s_21_41, s_21_42, s_21_45, s_21_46, s_21_47, s_21_50, s_21_53, true_and, and_true, sc0, sc1, sc2, sc3, sc4, Option.toList, List.cons_append, List.nil_append, clr, ne_eq, not_false_eq_true, not_true_eq_false, false_and, and_false, true_or, or_true, or_false, false_or, forall_const, Nat.reduceEqDiff, List.length_nil, List.length_cons, Nat.zero_le, Nat.reduceAdd, Nat.reduceLeDiff, false_implies, true_implies, Int.reduceEq, Int.reduceNe, Int.reduceLT, Int.reduceLE, Int.reduceNeg, Int.reduceToNat, Int.toNat_natCast, Nat.reduceLT, and_self, Decidable.not_not, kC_0, kC_1, kC_2, kC_3, kC_4, kC_5, kC_6, kC_7, kC_8, kC_9, kC_10, kC_11, kC_12, kC_13, kC_14, kC_15, kC_16, kC_17, kC_18, kC_19, kC_20, kC_21, kC_22, kC_23, kC_24, kC_25, kC_26, kC_27, kC_28, kC_29, kC_30, kC_31, kC_32, kC_145, kC_146, kC_147, kC_148, kC_149, kC_150, kC_151, kC_164, kC_165, kC_166, kC_167, kC_168, kC_169, kC_170, kC_171, kC_172, kC_173, kC_174, kC_175, kC_176, kC_177, kC_178, kC_179, kC_180, kC_181, kC_182, kC_183, kC_184, pC_1_0, pC_1_2, pC_1_3, pC_1_4, pC_1_5, pC_1_6, pC_1_7, pC_1_8, pC_1_9, pC_1_10, pC_1_11, pC_3_5, pC_5_0, pC_5_1, pC_5_2, pC_5_6, pC_5_7, pC_5_8, pC_5_9, pC_5_10, pC_13_0, pC_13_1, pC_13_2, pC_13_6, pC_13_7, pC_13_8, pC_13_9, pC_13_10, pC_21_0, pC_21_1, pC_21_2, pC_21_6, pC_21_7, pC_21_8, pC_21_9, pC_21_10, pC_29_0, pC_29_1, pC_29_2, pC_145_0, pC_145_1, pC_145_2, pC_145_3, pC_145_4, pC_149_0, pC_149_1, pC_149_2, pC_164_1, pC_164_2, pC_164_3, pC_168_0, pC_168_3, pC_168_4, pC_168_5, pC_172_0, pC_175_0, pC_175_2, pC_175_3, pC_175_5, pC_180_0, pC_180_2, pC_180_3, pC_180_5, c2]
          apply hF
          unfold yRel
          rw [if_pos ⟨c1, by omega⟩]
          exact ⟨rfl, rfl, a1, a2, a3, a4, a7, a8⟩
  exact key w code M none h1 h2 h3 h4 hl hw (fun _ _ _ => rfl) (fun _ _ => rfl) hQ
/-- what holds of the automaton's states -/
def YOK (s : YS) : Prop := s.2.2.2.1 ≤ 4 ∧ s.2.2.2.2.1 ≤ 3 ∧ (∀ x, x ∈ s.1 → -200 ≤ x ∧ x ≤ 999) ∧ (∀ x, x ∈ s.2.1 → 0 ≤ x ∧ x < 130) ∧ (0 < s.2.2.2.2.1 → ∃ c x, s.1 = c ++ [x] ∧ 0 ≤ x ∧ (s.2.2.2.2.1 = 1 → x ≤ 9) ∧ (s.2.2.2.2.1 = 2 → x ≤ 99))
def YM (M : MM) (q : Nat) (s : YS) : Prop := M q 1 = (s.1.length : Int) ∧ stk M (q + 1) s.1.reverse ∧ M q 4 = (s.2.1.length : Int) ∧ stk M (q + 3) s.2.1 ∧ (∀ j, j ≤ s.2.2.2.1 → M (q + 4) j = if s.2.2.1 j = true then 1 else 0) ∧ M q 6 = (s.2.2.2.1 : Int) ∧ M q 7 = (s.2.2.2.2.1 : Int) ∧ M q 8 = if s.2.2.2.2.2 = true then 1 else 0
theorem yTake_ok {s s' : YS} {ch : Int} (hch : 0 ≤ ch ∧ ch < 256) (h : YOK s) (ht : yTake s ch = some s') : YOK s' ∧ s'.1.length + s'.2.1.length ≤ s.1.length + s.2.1.length + 1 := by
  obtain ⟨code, wait, cm, op, dg, wn⟩ := s
  obtain ⟨h1, h2, h3, h4, h5⟩ := h
  dsimp only at h1 h2 h3 h4 h5
  unfold yTake at ht
  dsimp only at ht
  have bch : 0 < bnd ch → 0 ≤ ch ∧ ch < 130 := by
    intro hb
    unfold bnd at hb
    split at hb
    · omega
    split at hb
    · omega
    split at hb
    · omega
    · omega
  by_cases hw : wn = true
  · rw [if_pos hw] at ht
    unfold yThing at ht
    dsimp only at ht
    by_cases c1 : ch = 45
    · rw [if_pos c1] at ht
      obtain rfl := Option.some.inj ht
      refine ⟨⟨h1, h2, h3, fun x hx => ?_, h5⟩, by simp; omega⟩
      rcases List.mem_cons.mp hx with q | q
      · omega
      · exact h4 x q
    rw [if_neg c1] at ht
    by_cases c2 : ch = 40
    · rw [if_pos c2] at ht
      by_cases c3 : 4 ≤ op
      · rw [if_pos c3] at ht; cases ht
      rw [if_neg c3] at ht
      obtain rfl := Option.some.inj ht
      refine ⟨⟨by show op + 1 ≤ 4; omega, h2, h3, fun x hx => ?_, h5⟩, by simp; omega⟩
      rcases List.mem_cons.mp hx with q | q
      · omega
      · exact h4 x q
    rw [if_neg c2] at ht
    by_cases c3 : isDig ch = true
    · rw [if_pos c3] at ht
      obtain rfl := Option.some.inj ht
      have hd := dig_not c3
      refine ⟨⟨h1, by show 1 ≤ 3; omega, fun x hx => ?_, h4, fun _ => ⟨code, ch - 48, rfl, by omega, fun _ => by omega, fun h => by simp at h⟩⟩, by simp; omega⟩
      rcases List.mem_append.mp hx with q | q
      · exact h3 x q
      · have : x = ch - 48 := by simpa using q
        omega
    rw [if_neg c3] at ht
    by_cases c4 : loF ch ≠ -1
    · rw [if_pos c4] at ht
      obtain rfl := Option.some.inj ht
      have := ltr_lo c4
      refine ⟨⟨h1, by show 0 ≤ 3; omega, fun x hx => ?_, h4, fun h => by simp at h⟩, by simp; omega⟩
      rcases List.mem_append.mp hx with q | q
      · exact h3 x q
      · have : x = -ch := by simpa using q
        omega
    · rw [if_neg c4] at ht; cases ht
  · rw [if_neg hw] at ht
    unfold yBehind at ht
    dsimp only at ht
    have rm : ∀ bb, (∀ x, x ∈ (yRel bb code wait).1 → -200 ≤ x ∧ x ≤ 999) ∧ (∀ x, x ∈ (yRel bb code wait).2 → 0 ≤ x ∧ x < 130) := by
      intro bb
      obtain ⟨q1, q2⟩ := yRel_mem (bb := bb) wait code
      refine ⟨fun x hx => ?_, fun x hx => h4 x (q2 x hx)⟩
      rcases q1 x hx with z | ⟨y, z1, z2⟩
      · exact h3 x z
      · have := h4 y z1; omega
    by_cases c1 : isDig ch = true
    · rw [if_pos c1] at ht
      by_cases c2 : dg = 0 ∨ dg = 3 ∨ code = []
      · rw [if_pos c2] at ht; cases ht
      rw [if_neg c2] at ht
      obtain rfl := Option.some.inj ht
      have hd := dig_not c1
      obtain ⟨c, x, e1, e2, e3, e4⟩ := h5 (by omega)
      have hdg : dg = 1 ∨ dg = 2 := by omega
      have hv : 0 ≤ x * 10 + ch - 48 ∧ x * 10 + ch - 48 ≤ 999 ∧ (dg = 1 → x * 10 + ch - 48 ≤ 99) := by
        rcases hdg with z | z
        · have := e3 z; omega
        · have := e4 z; omega
      subst e1
      have ed : (c ++ [x]).dropLast ++ [(c ++ [x]).getLastD 0 * 10 + ch - 48] = c ++ [x * 10 + ch - 48] := by simp
      rw [ed]
      refine ⟨⟨h1, by show dg + 1 ≤ 3; omega, fun y hy => ?_, h4, fun _ => ⟨c, x * 10 + ch - 48, rfl, hv.1, fun h => ?_, fun h => ?_⟩⟩, by simp⟩
      · rcases List.mem_append.mp hy with z | z
        · exact h3 y (by simp [z])
        · have : y = x * 10 + ch - 48 := by simpa using z
          omega
      · have : dg + 1 = 1 := h
        omega
      · have : dg + 1 = 2 := h
        exact hv.2.2 (by omega)
    rw [if_neg c1] at ht
    by_cases c2 : ch = 41
    · rw [if_pos c2] at ht
      by_cases c3 : op = 0
      · rw [if_pos c3] at ht; cases ht
      rw [if_neg c3] at ht
      obtain rfl := Option.some.inj ht
      have hlen := yRel_len (bb := 1) wait code
      refine ⟨⟨by show op - 1 ≤ 4; omega, by show 0 ≤ 3; omega, (rm 1).1, fun x hx => (rm 1).2 x (List.mem_of_mem_tail hx), fun h => by simp at h⟩, ?_⟩
      dsimp only
      rw [List.length_tail]; omega
    rw [if_neg c2] at ht
    by_cases c3 : bnd ch = 0 ∨ (bnd ch = 1 ∧ cm op = true)
    · rw [if_pos c3] at ht; cases ht
    rw [if_neg c3] at ht
    obtain rfl := Option.some.inj ht
    have hlen := yRel_len (bb := bnd ch) wait code
    have hb0 : 0 < bnd ch := by
      rcases bnd_c ch with z | z | z | z
      · exact absurd (Or.inl z) c3
      · rw [bnd_mul z]; omega
      · rw [bnd_add z]; omega
      · rw [bnd_cmp z]; omega
    refine ⟨⟨h1, by show 0 ≤ 3; omega, (rm _).1, fun x hx => ?_, fun h => by simp at h⟩, by simp; omega⟩
    rcases List.mem_cons.mp hx with z | z
    · subst z; exact bch hb0
    · exact (rm _).2 x z
end
