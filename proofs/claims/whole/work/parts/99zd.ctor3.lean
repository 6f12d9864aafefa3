/-! constructors: Ground, Past, Band -/
def L4 : List (Nat × Nat) := [(9, 13), (0, 10), (4, 80), (0, 1)]
def L5 : List (Nat × Nat) := [(9, 13), (0, 10), (4, 80), (0, 1), (1, 144)]
def gM (M : MM) : MM := fun o k => if o = 3 then ([1, 1, 1] : List Int).getD k 0 else if o = 4 then ([-1, -1, -1, -1] : List Int).getD k 0 else M o k
section
variable {P : PM} {M : MM}
theorem c_measure1 (hP : P 3 5 = 4) : Cw 1 2 [pR 3, pI 1, pI 1] L5 P M (fun x P' M' => x = none ∧ P' = P ∧ ∀ o k, M' o k = if o = 3 ∧ k < 5 then ([1, 1, 1] : List Int).getD k 0 else if o = 4 ∧ k < 4 then -1 else M o k) := by
  refine Cw_k [some (pR 3), some (pI 1), some (pI 1), none, none, none] (Nat.le_of_ble_eq_true rfl) rfl (fun d hd Q X hQ => ?_)
  have q3 : kd (kz L5) 3 = (0, 1) := rfl
  have q4 : kd (kz L5) 4 = (1, 144) := rfl
  have w1 : EqW (w32 (1 * 1)) (1) := EqW_i <| by decide
  have w2 : EqW (w32 (1 - 1)) (0) := EqW_i <| by decide
  have w3 : EqW (w32 (4 * 0)) (0) := EqW_i <| by decide
  have w4 : EqW (w32 (0 + 1)) (1) := EqW_i <| by decide
  have w5 : EqW (w32 (0 + 2)) (2) := EqW_i <| by decide
  have w6 : EqW (w32 (0 + 3)) (3) := EqW_i <| by decide
  have w7 : Int.tmod 0 1 = 0 := by decide
  have w8 : EqW (lOr 0 0) (0) := EqW_i <| by decide
  have n4 : ¬ (4 : Nat) = 0 := by decide
  have b0 : (0 : Int) < ((144 : Nat) : Int) := by decide
  have b1 : (1 : Int) < ((144 : Nat) : Int) := by decide
  have b2 : (2 : Int) < ((144 : Nat) : Int) := by decide
  have b3 : (3 : Int) < ((144 : Nat) : Int) := by decide
  have one : ¬ (1 : Int) = 0 := by decide
  simp only [s_2_0, s_2_1, s_2_2, s_2_5, s_2_6, s_2_8, s_2_11, s_2_12, s_2_13, s_2_16, s_2_17, s_2_19, s_2_22, s_2_23, s_2_24, s_2_25, s_2_28, s_2_29, s_2_30, s_2_33, s_2_34, s_2_35, s_2_38, s_2_39, s_2_42, s_2_43, s_2_46, s_2_47, s_2_48, s_2_51, s_2_52, s_2_53, s_2_56, s_2_57, s_2_59, s_2_60, s_2_63, s_2_66, s_2_67, s_2_68, s_2_71, s_2_72, s_2_75, s_2_76, s_2_79, s_2_80, s_2_82, s_2_83, s_2_84, s_2_87, s_2_88, s_2_89, s_2_92, s_2_93, s_2_94, s_2_97, s_2_98, s_2_101, s_2_102, s_2_104, s_2_105I, s_2_105, s_2_106, s_2_109, s_2_111, s_2_114, s_2_115, s_2_118, s_2_119, s_2_120, s_2_121, s_2_122, s_2_125, s_2_126I, s_2_126, s_2_127, s_2_130, s_2_132, s_2_135, s_2_136, s_2_139, s_2_140, s_2_141, s_2_142, s_2_143, s_2_146, s_2_147, s_2_150, s_2_151, s_2_152, s_2_153, s_2_154, s_2_155, s_2_158, s_2_161, s_2_162, s_2_163, s_2_166, s_2_167, s_2_170, s_2_171, s_2_172, s_2_173, s_2_176, s_2_177, s_2_178, s_2_179, s_2_180, s_2_181, s_2_183, s_2_186, s_2_187, s_2_190, s_2_191, s_2_192, s_2_193, s_2_194, s_2_195, s_2_198, s_2_199, s_2_200, s_2_201, s_2_202, s_2_203, s_2_205, s_2_208, s_2_209, s_2_212, s_2_213, s_2_214, s_2_215, s_2_216, s_2_217, s_2_220, s_2_221, s_2_222, s_2_223, s_2_224, s_2_225, s_2_226, s_2_227, s_2_230, s_2_231, s_2_232, s_2_235, s_2_238, s_2_239, s_2_240, s_2_243, s_2_244, s_2_247, s_2_248, s_2_249, s_2_252, s_2_255, true_and, and_true, sc0, sc1, sc2, sc3, sc4, Option.toList, List.cons_append, List.nil_append, clr, ne_eq, not_false_eq_true, not_true_eq_false, false_and, and_false, true_or, or_true, or_false, false_or, forall_const, Nat.reduceEqDiff, List.length_nil, List.length_cons, Nat.zero_le, Nat.reduceAdd, Nat.reduceLeDiff, false_implies, true_implies, Int.reduceEq, Int.reduceNe, Int.reduceLT, Int.reduceLE, Int.reduceNeg, Int.reduceToNat, Int.toNat_natCast, Nat.reduceLT, and_self, Decidable.not_not, q3, q4, uM_at, if_true, if_false, (EqW_o w1)]
  rw [s_2_58]
  simp only [s_2_0, s_2_1, s_2_2, s_2_5, s_2_6, s_2_8, s_2_11, s_2_12, s_2_13, s_2_16, s_2_17, s_2_19, s_2_22, s_2_23, s_2_24, s_2_25, s_2_28, s_2_29, s_2_30, s_2_33, s_2_34, s_2_35, s_2_38, s_2_39, s_2_42, s_2_43, s_2_46, s_2_47, s_2_48, s_2_51, s_2_52, s_2_53, s_2_56, s_2_57, s_2_59, s_2_60, s_2_63, s_2_66, s_2_67, s_2_68, s_2_71, s_2_72, s_2_75, s_2_76, s_2_79, s_2_80, s_2_82, s_2_83, s_2_84, s_2_87, s_2_88, s_2_89, s_2_92, s_2_93, s_2_94, s_2_97, s_2_98, s_2_101, s_2_102, s_2_104, s_2_105I, s_2_105, s_2_106, s_2_109, s_2_111, s_2_114, s_2_115, s_2_118, s_2_119, s_2_120, s_2_121, s_2_122, s_2_125, s_2_126I, s_2_126, s_2_127, s_2_130, s_2_132, s_2_135, s_2_136, s_2_139, s_2_140, s_2_141, s_2_142, s_2_143, s_2_146, s_2_147, s_2_150, s_2_151, s_2_152, s_2_153, s_2_154, s_2_155, s_2_158, s_2_161, s_2_162, s_2_163, s_2_166, s_2_167, s_2_170, s_2_171, s_2_172, s_2_173, s_2_176, s_2_177, s_2_178, s_2_179, s_2_180, s_2_181, s_2_183, s_2_186, s_2_187, s_2_190, s_2_191, s_2_192, s_2_193, s_2_194, s_2_195, s_2_198, s_2_199, s_2_200, s_2_201, s_2_202, s_2_203, s_2_205, s_2_208, s_2_209, s_2_212, s_2_213, s_2_214, s_2_215, s_2_216, s_2_217, s_2_220, s_2_221, s_2_222, s_2_223, s_2_224, s_2_225, s_2_226, s_2_227, s_2_230, s_2_231, s_2_232, s_2_235, s_2_238, s_2_239, s_2_240, s_2_243, s_2_244, s_2_247, s_2_248, s_2_249, s_2_252, s_2_255, true_and, and_true, sc0, sc1, sc2, sc3, sc4, Option.toList, List.cons_append, List.nil_append, clr, ne_eq, not_false_eq_true, not_true_eq_false, false_and, and_false, true_or, or_true, or_false, false_or, forall_const, Nat.reduceEqDiff, List.length_nil, List.length_cons, Nat.zero_le, Nat.reduceAdd, Nat.reduceLeDiff, false_implies, true_implies, Int.reduceEq, Int.reduceNe, Int.reduceLT, Int.reduceLE, Int.reduceNeg, Int.reduceToNat, Int.toNat_natCast, Nat.reduceLT, and_self, Decidable.not_not, q3, q4, uM_at, if_true, if_false, (EqW_o w2), EqW_o (EqW_o w2), (EqW_o w3), (EqW_o w4), (EqW_o w5), (EqW_o w6), w7, (EqW_o w8), hP, n4, b0, b1, b2, b3, one, Int.le_refl]
  rw [s_2_58]
  simp only [s_2_0, s_2_1, s_2_2, s_2_5, s_2_6, s_2_8, s_2_11, s_2_12, s_2_13, s_2_16, s_2_17, s_2_19, s_2_22, s_2_23, s_2_24, s_2_25, s_2_28, s_2_29, s_2_30, s_2_33, s_2_34, s_2_35, s_2_38, s_2_39, s_2_42, s_2_43, s_2_46, s_2_47, s_2_48, s_2_51, s_2_52, s_2_53, s_2_56, s_2_57, s_2_59, s_2_60, s_2_63, s_2_66, s_2_67, s_2_68, s_2_71, s_2_72, s_2_75, s_2_76, s_2_79, s_2_80, s_2_82, s_2_83, s_2_84, s_2_87, s_2_88, s_2_89, s_2_92, s_2_93, s_2_94, s_2_97, s_2_98, s_2_101, s_2_102, s_2_104, s_2_105I, s_2_105, s_2_106, s_2_109, s_2_111, s_2_114, s_2_115, s_2_118, s_2_119, s_2_120, s_2_121, s_2_122, s_2_125, s_2_126I, s_2_126, s_2_127, s_2_130, s_2_132, s_2_135, s_2_136, s_2_139, s_2_140, s_2_141, s_2_142, s_2_143, s_2_146, s_2_147, s_2_150, s_2_151, s_2_152, s_2_153, s_2_154, s_2_155, s_2_158, s_2_161, s_2_162, s_2_163, s_2_166, s_2_167, s_2_170, s_2_171, s_2_172, s_2_173, s_2_176, s_2_177, s_2_178, s_2_179, s_2_180, s_2_181, s_2_183, s_2_186, s_2_187, s_2_190, s_2_191, s_2_192, s_2_193, s_2_194, s_2_195, s_2_198, s_2_199, s_2_200, s_2_201, s_2_202, s_2_203, s_2_205, s_2_208, s_2_209, s_2_212, s_2_213, s_2_214, s_2_215, s_2_216, s_2_217, s_2_220, s_2_221, s_2_222, s_2_223, s_2_224, s_2_225, s_2_226, s_2_227, s_2_230, s_2_231, s_2_232, s_2_235, s_2_238, s_2_239, s_2_240, s_2_243, s_2_244, s_2_247, s_2_248, s_2_249, s_2_252, s_2_255, true_and, and_true, sc0, sc1, sc2, sc3, sc4, Option.toList, List.cons_append, List.nil_append, clr, ne_eq, not_false_eq_true, not_true_eq_false, false_and, and_false, true_or, or_true, or_false, false_or, forall_const, Nat.reduceEqDiff, List.length_nil, List.length_cons, Nat.zero_le, Nat.reduceAdd, Nat.reduceLeDiff, false_implies, true_implies, Int.reduceEq, Int.reduceNe, Int.reduceLT, Int.reduceLE, Int.reduceNeg, Int.reduceToNat, Int.toNat_natCast, Nat.reduceLT, and_self, Decidable.not_not, q3, q4, uM_at, if_true, if_false, Int.le_refl]
  refine hQ _ _ _ ⟨rfl, rfl, fun o k => ?_⟩
  simp only [uM_at]
  by_cases e3 : o = 3
  · simp only [e3, true_and, Nat.reduceEqDiff, if_true, if_false]
    rcases k with _ | _ | _ | _ | _ | k <;> first | (simp; done) | (simp; intro h; omega)
  · by_cases e4 : o = 4
    · simp only [e4, true_and, false_and, Nat.reduceEqDiff, if_true, if_false]
      rcases k with _ | _ | _ | _ | k <;> first | (simp; done) | (simp; intro h; omega)
    · simp only [e3, e4, false_and, if_false]
theorem c_Ground (hV : Vz P M 4) (hf : ∀ k, P 3 k = 0 ∧ M 3 k = 0) : Cn 2 (1, 144) 1 [pR 3] L4 P M L5 (fun P' M' => P' = rP P 3 [0, 0, 0, 0, 0, 4] ∧ M' = gM M) := by
  refine Cn_k [some (pR 3)] (Nat.le_of_ble_eq_true rfl) rfl (fun d hd Q X hQ => ?_)
  have p0 := Vz_P hV
  have m0 := Vz_M hV
  have hl : L4.length = 4 := rfl
  have n0 : ¬ (4 : Nat) = 3 := by decide
  have n4 : ¬ (4 : Nat) = 0 := by decide
  have q3 : ∀ b, kd (b, L4) 3 = (0, 1) := fun _ => rfl
  have q3' : ∀ b, kd (b, L4 ++ [(1, 144)]) 3 = (0, 1) := fun _ => rfl
  have fP : ∀ k, P 3 k = 0 := fun k => (hf k).1
  have hP5 : uP P 3 5 4 3 5 = 4 := by simp [uP]
  obtain ⟨M1, hM1⟩ : ∃ J, J = uM (uM (uM (uM (uM M 3 0 1) 3 1 1) 3 2 1) 3 3 0) 3 4 0 := ⟨_, rfl⟩
  obtain ⟨x, P', M', hE, rfl, rfl, hm⟩ := c_measure1 (P := uP P 3 5 4) (M := M1) hP5 d (by omega)
  simp only [s_1_0, s_1_4, s_1_5, s_1_6, s_1_9, s_1_10, s_1_11, s_1_14, s_1_15, s_1_16, s_1_19, s_1_20, s_1_21, s_1_24, s_1_25, s_1_26, s_1_29, s_1_30, s_1_35, s_1_38, s_1_39, s_1_40, s_1_44, n_1_1, n_1_33, true_and, and_true, sc0, sc1, sc2, sc3, sc4, Option.toList, List.cons_append, List.nil_append, clr, ne_eq, not_false_eq_true, not_true_eq_false, false_and, and_false, true_or, or_true, or_false, false_or, forall_const, Nat.reduceEqDiff, List.length_nil, List.length_cons, Nat.zero_le, Nat.reduceAdd, Nat.reduceLeDiff, false_implies, true_implies, Int.reduceEq, Int.reduceNe, Int.reduceLT, Int.reduceLE, Int.reduceNeg, Int.reduceToNat, Int.toNat_natCast, Nat.reduceLT, and_self, Decidable.not_not, Nat.reduceSub, Nat.sub_self, List.length_append, List.append_assoc, hl, zM_u n0, zP_u n0, p0, m0, q3, q3', n4]
  rw [← hM1]
  refine s_1_41 (L := L5) (Nat.le_of_ble_eq_true rfl) rfl hE ?_
  simp only [s_1_0, s_1_4, s_1_5, s_1_6, s_1_9, s_1_10, s_1_11, s_1_14, s_1_15, s_1_16, s_1_19, s_1_20, s_1_21, s_1_24, s_1_25, s_1_26, s_1_29, s_1_30, s_1_35, s_1_38, s_1_39, s_1_40, s_1_44, n_1_1, n_1_33, true_and, and_true, sc0, sc1, sc2, sc3, sc4, Option.toList, List.cons_append, List.nil_append, clr, ne_eq, not_false_eq_true, not_true_eq_false, false_and, and_false, true_or, or_true, or_false, false_or, forall_const, Nat.reduceEqDiff, List.length_nil, List.length_cons, Nat.zero_le, Nat.reduceAdd, Nat.reduceLeDiff, false_implies, true_implies, Int.reduceEq, Int.reduceNe, Int.reduceLT, Int.reduceLE, Int.reduceNeg, Int.reduceToNat, Int.toNat_natCast, Nat.reduceLT, and_self, Decidable.not_not, Nat.reduceSub, Nat.sub_self, List.length_append, List.append_assoc]
  refine hQ _ _ ⟨?_, ?_⟩
  · funext o' k
    simp only [uP, rP]
    by_cases e : o' = 3
    · simp only [e, if_true]
      rcases k with _ | _ | _ | _ | _ | _ | k <;> simp [fP]
    · simp only [e, if_false]
  · funext o k
    rw [hm, hM1]
    simp only [uM_at, gM]
    by_cases e3 : o = 3
    · simp only [e3, true_and, Nat.reduceEqDiff, if_true, if_false]
      rcases k with _ | _ | _ | _ | _ | k <;> simp [(hf _).2]
    · by_cases e4 : o = 4
      · simp only [e4, true_and, false_and, Nat.reduceEqDiff, if_true, if_false]
        rcases k with _ | _ | _ | _ | k <;> simp [(hV 4 (Nat.le_refl _) _).2]
      · simp only [e3, e4, false_and, if_false]
end
def rSt (o : Nat) : List Nat := [3, o + 1, o + 1 + 1, 0, 0, 0, o + 1 + 2, o + 1 + 3, o + 1 + 4, o + 1 + 5, o + 1 + 6]
def pst (P : PM) (arr base : Nat) : Nat → PM
  | 0 => P
  | i + 1 => uP (rP (pst P arr base i) (base + 8 * i) (rSt (base + 8 * i))) arr i (base + 8 * i)
theorem rP_ne {P : PM} {o o' : Nat} {l : List Nat} (h : o' ≠ o) : rP P o l o' = P o' := by
  funext k
  unfold rP
  rw [if_neg h]
theorem pst_ne {P : PM} {arr base o : Nat} (h1 : o ≠ arr) (h2 : o < base) : ∀ i, pst P arr base i o = P o
  | 0 => rfl
  | i + 1 => by
    show uP (rP (pst P arr base i) (base + 8 * i) (rSt (base + 8 * i))) arr i (base + 8 * i) o = P o
    rw [uP_ne h1, rP_ne (by omega)]
    exact pst_ne h1 h2 i
theorem pst_z {P : PM} {M : MM} {arr base : Nat} (ha : arr < base) (h : Vz P M base) : ∀ i, Vz (pst P arr base i) M (base + 8 * i)
  | 0 => h
  | i + 1 => fun o ho k => by
    refine ⟨?_, (h o (by omega) k).2⟩
    show uP (rP (pst P arr base i) (base + 8 * i) (rSt (base + 8 * i))) arr i (base + 8 * i) o k = 0
    rw [uP_ne (by omega), rP_ne (by omega)]
    exact (pst_z ha h i o (by omega) k).1
theorem tk_len {n : Nat} (h : n ≤ 185) : (LC.take n).length = n := by
  rw [List.length_take]
  have : LC.length = 185 := by decide +kernel
  omega
theorem kd_t {b : Nat × Nat} {n o : Nat} (h : o < n) : kd (b, LC.take n) o = LC.getD o (99, 0) := by
  unfold kd
  rw [List.getD_eq_getElem?_getD, List.getD_eq_getElem?_getD, List.getElem?_take_of_lt h]
theorem tk_st : ∀ i, i < 14 → (LC.take (33 + 8 * i) ++ [(0, 7)]) ++ [(1, 36), (1, 36), (1, 6), (1, 6), (1, 6), (1, 6), (1, 6)] = LC.take (33 + 8 * (i + 1)) := by decide +kernel
theorem tk_pa : ∀ i, i < 6 → (LC.take (152 + 2 * i) ++ [(0, 5)]) ++ [(1, 36)] = LC.take (152 + 2 * (i + 1)) := by decide +kernel
theorem kd_st : ∀ i, i < 14 → LC.getD (33 + 8 * i) (99, 0) = (0, 7) := by decide +kernel
theorem kd_pa : ∀ i, i < 6 → LC.getD (152 + 2 * i) (99, 0) = (0, 5) := by decide +kernel
theorem getD_l {L : List (Nat × Nat)} {x : Nat × Nat} {n : Nat} (h : L.length = n) : (L ++ [x]).getD n (99, 0) = x := by
  rw [List.getD_eq_getElem?_getD, List.getElem?_append_right (by omega), h, Nat.sub_self]; rfl
section
variable {P : PM} {M : MM}
def pastP (P : PM) : PM := pst (pst (uP (uP (uP P 29 0 30) 29 1 31) 29 2 32) 30 33 12) 31 129 2
theorem c_Past (hV : Vz P M 30) (hf : ∀ k, P 29 k = 0 ∧ M 29 k = 0) : Cn 2 (115, 1598) 4 [pR 29, pR 3] (LC.take 30) P M (LC.take 145) (fun P' M' => P' = pastP P ∧ M' = M) := by
  refine Cn_k [some (pR 29), some (pR 3), none] (Nat.le_of_ble_eq_true rfl) rfl (fun d hd Q X hQ => ?_)
  have p0 := Vz_P hV
  have pj := Vz_Pj hV
  have m0 := Vz_M hV
  have mj := Vz_Mj hV
  have hl : (LC.take 30).length = 30 := by decide +kernel
  have z31 : zP P 31 = P := pj 1
  have z32 : zP P 32 = P := pj 2
  have y31 : zM M 31 = M := mj 1
  have y32 : zM M 32 = M := mj 2
  have n0 : ¬ (30 : Nat) = 29 := by decide
  have n1 : ¬ (31 : Nat) = 29 := by decide
  have n2 : ¬ (32 : Nat) = 29 := by decide
  have q0 : ¬ (30 : Nat) = 0 := by decide
  have q1 : ¬ (31 : Nat) = 0 := by decide
  have q2 : ¬ (32 : Nat) = 0 := by decide
  have k0 : ∀ b, kd (b, LC.take 30) 29 = (0, 4) := fun b => kd_t (by decide)
  have k1 : ∀ b l, kd (b, LC.take 30 ++ l) 29 = (0, 4) := fun b l => kd_a (by rw [hl]; decide) (k0 b)
  have fM : ∀ k, M 29 k = 0 := fun k => (hf k).2
  have t33 : LC.take 30 ++ [(6, 12), (6, 2), (2, 2)] = LC.take 33 := by decide +kernel
  obtain ⟨P1, hP1⟩ : ∃ J, J = uP (uP (uP P 29 0 30) 29 1 31) 29 2 32 := ⟨_, rfl⟩
  have hV1 : Vz P1 M 33 := fun o ho k => ⟨by rw [hP1, uP_ne (by omega), uP_ne (by omega), uP_ne (by omega)]; exact (hV o (by omega) k).1, (hV o (by omega) k).2⟩
  have a0 : P1 29 0 = 30 := by rw [hP1]; simp [uP]
  have a1 : P1 29 1 = 31 := by rw [hP1]; simp [uP]
  have hQ' : Q none (kz (LC.take 145)) (pst (pst P1 30 33 12) 31 129 2) M := hQ _ _ ⟨by rw [hP1]; rfl, rfl⟩
  have hV2 : Vz (pst P1 30 33 12) M 129 := pst_z (by decide) hV1 12
  have b1 : pst P1 30 33 12 29 1 = 31 := by rw [pst_ne (by decide) (by decide)]; exact a1
  -- the second loop
  have two : ∀ (m i : Nat), i + m = 2 → wpB (Ev d) 4 Q X 68 [some (pR 29), some (pR 3), some (pI (i : Int))] [] ((8 * m, 113 * m), LC.take (129 + 8 * i)) (pst (pst P1 30 33 12) 31 129 i) M := by
    intro m
    induction m with
    | zero =>
      intro i hi
      have e : i = 2 := by omega
      subst e
      have g : (2 : Int) ≤ ((2 : Nat) : Int) := by decide
      rw [s_4_68]
      simp only [s_4_0, s_4_4, s_4_5, s_4_10, s_4_13, s_4_14, s_4_18, s_4_21, s_4_22, s_4_25, s_4_28, s_4_29, s_4_30, s_4_33, s_4_34, s_4_35, s_4_38, s_4_39, s_4_41, s_4_43, s_4_46, s_4_47, s_4_50, s_4_54I, s_4_54, s_4_55, s_4_59, s_4_60, s_4_63, s_4_66, s_4_67, s_4_69, s_4_70, s_4_73, s_4_74, s_4_77, s_4_81I, s_4_81, s_4_82, s_4_86, s_4_87, s_4_90, s_4_93, n_4_1, n_4_7, n_4_15, n_4_23, n_4_51, n_4_78, true_and, and_true, sc0, sc1, sc2, sc3, sc4, Option.toList, List.cons_append, List.nil_append, clr, ne_eq, not_false_eq_true, not_true_eq_false, false_and, and_false, true_or, or_true, or_false, false_or, forall_const, Nat.reduceEqDiff, List.length_nil, List.length_cons, Nat.zero_le, Nat.reduceAdd, Nat.reduceLeDiff, false_implies, true_implies, Int.reduceEq, Int.reduceNe, Int.reduceLT, Int.reduceLE, Int.reduceNeg, Int.reduceToNat, Int.toNat_natCast, Nat.reduceLT, and_self, Decidable.not_not, Nat.reduceSub, Nat.sub_self, List.length_append, List.append_assoc, g]
      exact hQ'
    | succ m ih =>
      intro i hi
      have g : ¬ (2 : Int) ≤ (i : Int) := by omega
      have hlen : (LC.take (129 + 8 * i)).length = 129 + 8 * i := tk_len (by omega)
      have hVi := pst_z (show 31 < 129 by decide) hV2 i
      have kk : ∀ b, kd (b, LC.take (129 + 8 * i)) 29 = (0, 4) := fun b => kd_t (by omega)
      have c1 : pst (pst P1 30 33 12) 31 129 i 29 1 = 31 := by rw [pst_ne (by decide) (by decide)]; exact b1
      have zp := Vz_P hVi
      have zm := Vz_M hVi
      have hV' : Vz (pst (pst P1 30 33 12) 31 129 i) M (129 + 8 * i + 1) := fun o ho k => hVi o (by omega) k
      obtain ⟨P', M', hE, hP', hM'⟩ := c_State (L := LC.take (129 + 8 * i) ++ [(0, 7)]) (o := 129 + 8 * i) (q := 3) (n := 129 + 8 * i + 1) (by rw [List.length_append, hlen]; rfl) (by omega) (getD_l hlen) (by decide) hV' (fun k => hVi _ (Nat.le_refl _) k) d (by omega)
      have hts := tk_st (i + 12) (by omega)
      rw [show 33 + 8 * (i + 12) = 129 + 8 * i by omega, show 33 + 8 * (i + 12 + 1) = 129 + 8 * (i + 1) by omega] at hts
      rw [hts, hM', hP'] at hE
      have k30 : ∀ b, kd (b, LC.take (129 + 8 * (i + 1))) 31 = (6, 2) := fun b => kd_t (by omega)
      have kst : ∀ b, kd (b, LC.take (129 + 8 * (i + 1))) (129 + 8 * i) = (0, 7) := fun b => by
        rw [kd_t (by omega)]
        have := kd_st (i + 12) (by omega)
        rw [show 33 + 8 * (i + 12) = 129 + 8 * i by omega] at this
        exact this
      have bi : (0 : Int) ≤ (i : Int) ∧ (i : Int) < ((2 : Nat) : Int) := by omega
      have en := EqW_i (w32n (show i < 1000000 by omega))
      have ihi := ih (i + 1) (by omega)
      rw [show pst (pst P1 30 33 12) 31 129 (i + 1) = uP (rP (pst (pst P1 30 33 12) 31 129 i) (129 + 8 * i) (rSt (129 + 8 * i))) 31 i (129 + 8 * i) from rfl] at ihi
      have s1 : 1 ≤ 8 * (m + 1) := by omega
      have s2 : 11 ≤ 113 * (m + 1) := by omega
      have s3 : 8 * (m + 1) - 1 - 7 = 8 * m := by omega
      have s4 : 113 * (m + 1) - 11 - 102 = 113 * m := by omega
      rw [s_4_68]
      simp only [s_4_0, s_4_4, s_4_5, s_4_10, s_4_13, s_4_14, s_4_18, s_4_21, s_4_22, s_4_25, s_4_28, s_4_29, s_4_30, s_4_33, s_4_34, s_4_35, s_4_38, s_4_39, s_4_41, s_4_43, s_4_46, s_4_47, s_4_50, s_4_54I, s_4_54, s_4_55, s_4_59, s_4_60, s_4_63, s_4_66, s_4_67, s_4_69, s_4_70, s_4_73, s_4_74, s_4_77, s_4_81I, s_4_81, s_4_82, s_4_86, s_4_87, s_4_90, s_4_93, n_4_1, n_4_7, n_4_15, n_4_23, n_4_51, n_4_78, true_and, and_true, sc0, sc1, sc2, sc3, sc4, Option.toList, List.cons_append, List.nil_append, clr, ne_eq, not_false_eq_true, not_true_eq_false, false_and, and_false, true_or, or_true, or_false, false_or, forall_const, Nat.reduceEqDiff, List.length_nil, List.length_cons, Nat.zero_le, Nat.reduceAdd, Nat.reduceLeDiff, false_implies, true_implies, Int.reduceEq, Int.reduceNe, Int.reduceLT, Int.reduceLE, Int.reduceNeg, Int.reduceToNat, Int.toNat_natCast, Nat.reduceLT, and_self, Decidable.not_not, Nat.reduceSub, Nat.sub_self, List.length_append, List.append_assoc, g, kk, c1, s1, s2, hlen, zp, zm]
      refine i_4_83 (Nat.le_of_ble_eq_true rfl) (show 7 ≤ 8 * (m + 1) - 1 by omega) (show 102 ≤ 113 * (m + 1) - 11 by omega) hE ?_
      rw [s3, s4]
      simp only [s_4_0, s_4_4, s_4_5, s_4_10, s_4_13, s_4_14, s_4_18, s_4_21, s_4_22, s_4_25, s_4_28, s_4_29, s_4_30, s_4_33, s_4_34, s_4_35, s_4_38, s_4_39, s_4_41, s_4_43, s_4_46, s_4_47, s_4_50, s_4_54I, s_4_54, s_4_55, s_4_59, s_4_60, s_4_63, s_4_66, s_4_67, s_4_69, s_4_70, s_4_73, s_4_74, s_4_77, s_4_81I, s_4_81, s_4_82, s_4_86, s_4_87, s_4_90, s_4_93, n_4_1, n_4_7, n_4_15, n_4_23, n_4_51, n_4_78, true_and, and_true, sc0, sc1, sc2, sc3, sc4, Option.toList, List.cons_append, List.nil_append, clr, ne_eq, not_false_eq_true, not_true_eq_false, false_and, and_false, true_or, or_true, or_false, false_or, forall_const, Nat.reduceEqDiff, List.length_nil, List.length_cons, Nat.zero_le, Nat.reduceAdd, Nat.reduceLeDiff, false_implies, true_implies, Int.reduceEq, Int.reduceNe, Int.reduceLT, Int.reduceLE, Int.reduceNeg, Int.reduceToNat, Int.toNat_natCast, Nat.reduceLT, and_self, Decidable.not_not, Nat.reduceSub, Nat.sub_self, List.length_append, List.append_assoc, k30, kst, bi, EqW_o en]
      exact ihi
  have loop : ∀ (m i : Nat), i + m = 12 → wpB (Ev d) 4 Q X 40 [some (pR 29), some (pR 3), some (pI (i : Int))] [] ((8 * (m + 2), 113 * (m + 2)), LC.take (33 + 8 * i)) (pst P1 30 33 i) M := by
    intro m
    induction m with
    | zero =>
      intro i hi
      have e : i = 12 := by omega
      subst e
      have g : (12 : Int) ≤ ((12 : Nat) : Int) := by decide
      have := two 2 0 rfl
      rw [s_4_40]
      simp only [s_4_0, s_4_4, s_4_5, s_4_10, s_4_13, s_4_14, s_4_18, s_4_21, s_4_22, s_4_25, s_4_28, s_4_29, s_4_30, s_4_33, s_4_34, s_4_35, s_4_38, s_4_39, s_4_41, s_4_43, s_4_46, s_4_47, s_4_50, s_4_54I, s_4_54, s_4_55, s_4_59, s_4_60, s_4_63, s_4_66, s_4_67, s_4_69, s_4_70, s_4_73, s_4_74, s_4_77, s_4_81I, s_4_81, s_4_82, s_4_86, s_4_87, s_4_90, s_4_93, n_4_1, n_4_7, n_4_15, n_4_23, n_4_51, n_4_78, true_and, and_true, sc0, sc1, sc2, sc3, sc4, Option.toList, List.cons_append, List.nil_append, clr, ne_eq, not_false_eq_true, not_true_eq_false, false_and, and_false, true_or, or_true, or_false, false_or, forall_const, Nat.reduceEqDiff, List.length_nil, List.length_cons, Nat.zero_le, Nat.reduceAdd, Nat.reduceLeDiff, false_implies, true_implies, Int.reduceEq, Int.reduceNe, Int.reduceLT, Int.reduceLE, Int.reduceNeg, Int.reduceToNat, Int.toNat_natCast, Nat.reduceLT, and_self, Decidable.not_not, Nat.reduceSub, Nat.sub_self, List.length_append, List.append_assoc, g]
      exact this
    | succ m ih =>
      intro i hi
      have g : ¬ (12 : Int) ≤ (i : Int) := by omega
      have hlen : (LC.take (33 + 8 * i)).length = 33 + 8 * i := tk_len (by omega)
      have hVi := pst_z (show 30 < 33 by decide) hV1 i
      have kk : ∀ b, kd (b, LC.take (33 + 8 * i)) 29 = (0, 4) := fun b => kd_t (by omega)
      have c1 : pst P1 30 33 i 29 0 = 30 := by rw [pst_ne (by decide) (by decide)]; exact a0
      have zp := Vz_P hVi
      have zm := Vz_M hVi
      have hV' : Vz (pst P1 30 33 i) M (33 + 8 * i + 1) := fun o ho k => hVi o (by omega) k
      obtain ⟨P', M', hE, hP', hM'⟩ := c_State (L := LC.take (33 + 8 * i) ++ [(0, 7)]) (o := 33 + 8 * i) (q := 3) (n := 33 + 8 * i + 1) (by rw [List.length_append, hlen]; rfl) (by omega) (getD_l hlen) (by decide) hV' (fun k => hVi _ (Nat.le_refl _) k) d (by omega)
      rw [tk_st i (by omega), hM', hP'] at hE
      have k30 : ∀ b, kd (b, LC.take (33 + 8 * (i + 1))) 30 = (6, 12) := fun b => kd_t (by omega)
      have kst : ∀ b, kd (b, LC.take (33 + 8 * (i + 1))) (33 + 8 * i) = (0, 7) := fun b => by rw [kd_t (by omega)]; exact kd_st i (by omega)
      have bi : (0 : Int) ≤ (i : Int) ∧ (i : Int) < ((12 : Nat) : Int) := by omega
      have en := EqW_i (w32n (show i < 1000000 by omega))
      have ihi := ih (i + 1) (by omega)
      rw [show pst P1 30 33 (i + 1) = uP (rP (pst P1 30 33 i) (33 + 8 * i) (rSt (33 + 8 * i))) 30 i (33 + 8 * i) from rfl] at ihi
      have s1 : 1 ≤ 8 * (m + 1 + 2) := by omega
      have s2 : 11 ≤ 113 * (m + 1 + 2) := by omega
      have s3 : 8 * (m + 1 + 2) - 1 - 7 = 8 * (m + 2) := by omega
      have s4 : 113 * (m + 1 + 2) - 11 - 102 = 113 * (m + 2) := by omega
      rw [s_4_40]
      simp only [s_4_0, s_4_4, s_4_5, s_4_10, s_4_13, s_4_14, s_4_18, s_4_21, s_4_22, s_4_25, s_4_28, s_4_29, s_4_30, s_4_33, s_4_34, s_4_35, s_4_38, s_4_39, s_4_41, s_4_43, s_4_46, s_4_47, s_4_50, s_4_54I, s_4_54, s_4_55, s_4_59, s_4_60, s_4_63, s_4_66, s_4_67, s_4_69, s_4_70, s_4_73, s_4_74, s_4_77, s_4_81I, s_4_81, s_4_82, s_4_86, s_4_87, s_4_90, s_4_93, n_4_1, n_4_7, n_4_15, n_4_23, n_4_51, n_4_78, true_and, and_true, sc0, sc1, sc2, sc3, sc4, Option.toList, List.cons_append, List.nil_append, clr, ne_eq, not_false_eq_true, not_true_eq_false, false_and, and_false, true_or, or_true, or_false, false_or, forall_const, Nat.reduceEqDiff, List.length_nil, List.length_cons, Nat.zero_le, Nat.reduceAdd, Nat.reduceLeDiff, false_implies, true_implies, Int.reduceEq, Int.reduceNe, Int.reduceLT, Int.reduceLE, Int.reduceNeg, Int.reduceToNat, Int.toNat_natCast, Nat.reduceLT, and_self, Decidable.not_not, Nat.reduceSub, Nat.sub_self, List.length_append, List.append_assoc, g, kk, c1, s1, s2, hlen, zp, zm]
      refine i_4_56 (Nat.le_of_ble_eq_true rfl) (show 7 ≤ 8 * (m + 1 + 2) - 1 by omega) (show 102 ≤ 113 * (m + 1 + 2) - 11 by omega) hE ?_
      rw [s3, s4]
      simp only [s_4_0, s_4_4, s_4_5, s_4_10, s_4_13, s_4_14, s_4_18, s_4_21, s_4_22, s_4_25, s_4_28, s_4_29, s_4_30, s_4_33, s_4_34, s_4_35, s_4_38, s_4_39, s_4_41, s_4_43, s_4_46, s_4_47, s_4_50, s_4_54I, s_4_54, s_4_55, s_4_59, s_4_60, s_4_63, s_4_66, s_4_67, s_4_69, s_4_70, s_4_73, s_4_74, s_4_77, s_4_81I, s_4_81, s_4_82, s_4_86, s_4_87, s_4_90, s_4_93, n_4_1, n_4_7, n_4_15, n_4_23, n_4_51, n_4_78, true_and, and_true, sc0, sc1, sc2, sc3, sc4, Option.toList, List.cons_append, List.nil_append, clr, ne_eq, not_false_eq_true, not_true_eq_false, false_and, and_false, true_or, or_true, or_false, false_or, forall_const, Nat.reduceEqDiff, List.length_nil, List.length_cons, Nat.zero_le, Nat.reduceAdd, Nat.reduceLeDiff, false_implies, true_implies, Int.reduceEq, Int.reduceNe, Int.reduceLT, Int.reduceLE, Int.reduceNeg, Int.reduceToNat, Int.toNat_natCast, Nat.reduceLT, and_self, Decidable.not_not, Nat.reduceSub, Nat.sub_self, List.length_append, List.append_assoc, k30, kst, bi, EqW_o en]
      exact ihi
  have := loop 12 0 rfl
  rw [show pst P1 30 33 0 = P1 from rfl] at this
  simp only [s_4_0, s_4_4, s_4_5, s_4_10, s_4_13, s_4_14, s_4_18, s_4_21, s_4_22, s_4_25, s_4_28, s_4_29, s_4_30, s_4_33, s_4_34, s_4_35, s_4_38, s_4_39, s_4_41, s_4_43, s_4_46, s_4_47, s_4_50, s_4_54I, s_4_54, s_4_55, s_4_59, s_4_60, s_4_63, s_4_66, s_4_67, s_4_69, s_4_70, s_4_73, s_4_74, s_4_77, s_4_81I, s_4_81, s_4_82, s_4_86, s_4_87, s_4_90, s_4_93, n_4_1, n_4_7, n_4_15, n_4_23, n_4_51, n_4_78, true_and, and_true, sc0, sc1, sc2, sc3, sc4, Option.toList, List.cons_append, List.nil_append, clr, ne_eq, not_false_eq_true, not_true_eq_false, false_and, and_false, true_or, or_true, or_false, false_or, forall_const, Nat.reduceEqDiff, List.length_nil, List.length_cons, Nat.zero_le, Nat.reduceAdd, Nat.reduceLeDiff, false_implies, true_implies, Int.reduceEq, Int.reduceNe, Int.reduceLT, Int.reduceLE, Int.reduceNeg, Int.reduceToNat, Int.toNat_natCast, Nat.reduceLT, and_self, Decidable.not_not, Nat.reduceSub, Nat.sub_self, List.length_append, List.append_assoc, hl, p0, m0, z31, z32, y31, y32, zP_u n0, zP_u n1, zP_u n2, zM_u n0, zM_u n1, zM_u n2, q0, q1, q2, k0, k1, uM_z (fM _)]
  rw [← hP1, t33]
  exact this
end
