/-! constructors: the object itself -/
def P00 : PM := fun _ _ => 0
def M00 : MM := fun o k => if o = 0 then plT k else 0
def SV (P : PM) : Prop := ∀ o k, 185 ≤ o ∨ 14 ≤ k → P o k = 0
theorem SV_u {P : PM} {o k v : Nat} (h : SV P) (ho : o < 185) (hk : k < 14) : SV (uP P o k v) := fun o' k' w => by
  unfold uP
  split
  · rename_i e
    split
    · omega
    · exact h o k' (by omega)
  · exact h o' k' w
theorem SV_r {P : PM} {o : Nat} {l : List Nat} (h : SV P) (ho : o < 185) (hl : l.length ≤ 14) : SV (rP P o l) := fun o' k' w => by
  unfold rP
  split
  · rw [List.getD_eq_getElem?_getD, List.getElem?_eq_none (by omega)]; rfl
  · exact h o' k' w
theorem SV_p {P : PM} {arr base : Nat} (h : SV P) (ha : arr < 185) : ∀ i, base + 8 * i ≤ 185 → i ≤ 14 → SV (pst P arr base i)
  | 0, _, _ => h
  | i + 1, h1, h2 => SV_u (SV_r (SV_p h ha i (by omega) (by omega)) (by omega) (Nat.le_of_ble_eq_true rfl)) ha (by omega)
theorem SV_b {P : PM} (h : SV P) : ∀ i, i ≤ 6 → SV (bst P i)
  | 0, _ => h
  | i + 1, h1 => SV_u (SV_r (SV_b h i (by omega)) (by omega) (Nat.le_of_ble_eq_true rfl)) (by decide) (by omega)
theorem SV_PC : SV (PC false) := fun o k w => by
  unfold PC
  rw [if_neg (by omega), if_neg (by omega)]
  rcases w with w | w
  · have hl : PCl.length = 185 := by decide +kernel
    rw [List.getD_eq_getElem?_getD, List.getD_eq_getElem?_getD (l := PCl), List.getElem?_eq_none (l := PCl) (by omega)]
    rfl
  · have hl : ∀ l ∈ PCl, l.length ≤ 14 := by decide +kernel
    by_cases ho : o < PCl.length
    · rw [List.getD_eq_getElem?_getD, List.getElem?_eq_none]
      · rfl
      · rw [List.getD_eq_getElem?_getD, List.getElem?_eq_getElem ho]
        have := hl _ (List.getElem_mem ho)
        show (PCl[o]).length ≤ k
        omega
    · rw [List.getD_eq_getElem?_getD, List.getD_eq_getElem?_getD (l := PCl), List.getElem?_eq_none (l := PCl) (by omega)]
      rfl
theorem fin_eq {P P' : PM} (h : SV P) (h' : SV P') (he : ∀ o, o < 185 → ∀ k, k < 14 → P o k = P' o k) : P = P' := by
  funext o k
  by_cases w : 185 ≤ o ∨ 14 ≤ k
  · rw [h o k w, h' o k w]
  · exact he o (by omega) k (by omega)
theorem c_new0 : Cn 6 (183, 3037) 0 [pR 1] (LC.take 2) P00 M00 LC (fun P' M' => P' = PC false ∧ same M' (uM (uM (uM (gM M00) 175 8 1) 180 8 1) 1 14 20) [175, 176, 178, 179] ∧ RuV M' 175 plainV) := by
  refine Cn_k [some (pR 1)] (Nat.le_of_ble_eq_true rfl) rfl (fun d hd Q X hQ => ?_)
  have hV0 : Vz P00 M00 2 := fun o ho k => ⟨rfl, by unfold M00; rw [if_neg (by omega)]⟩
  have m1 : ∀ k, M00 1 k = 0 := fun k => by unfold M00; rw [if_neg (by decide)]
  have k1 : ∀ b n, kd (b, LC.take (n + 2)) 1 = (0, 10) := fun b n => kd_t (by omega)
  have l2 : (LC.take 2).length = 2 := rfl
  have t3 : LC.take 2 ++ [(4, 80)] = LC.take 3 := by decide +kernel
  have l3 : (LC.take 3).length = 3 := tk_len (by decide)
  have t4 : LC.take 3 ++ [(0, 1)] = LC.take 4 := by decide +kernel
  have t4' : LC.take 2 ++ [(4, 80), (0, 1)] = LC.take 4 := by decide +kernel
  obtain ⟨P1, hP1⟩ : ∃ J, J = uP P00 1 0 2 := ⟨_, rfl⟩
  have hV1 : Vz P1 M00 2 := by rw [hP1]; exact Vz_uP hV0 (by decide)
  have z2 := Vz_P hV0
  have y2 := Vz_M hV0
  have z3 : zP P00 3 = P00 := Vz_Pj hV0 1
  have y3 : zM M00 3 = M00 := Vz_Mj hV0 1
  have ne2 : ¬ (2 : Nat) = 0 := by decide
  have n31 : ¬ (3 : Nat) = 1 := by decide
  have n21 : ¬ (2 : Nat) = 1 := by decide
  have k2 : ∀ b, kd (b, LC.take 2) 1 = (0, 10) := fun b => k1 b 0
  have k2' : ∀ b l, kd (b, LC.take 2 ++ l) 1 = (0, 10) := fun b l => kd_a (by rw [l2]; decide) (k2 b)
  have k3 : ∀ b, kd (b, LC.take 3) 1 = (0, 10) := fun b => k1 b 1
  simp only [s_0_0, s_0_4, s_0_5, s_0_9, s_0_12, s_0_13, s_0_14, s_0_17, s_0_21I, s_0_21, s_0_25, s_0_28, s_0_32I, s_0_32, s_0_33, s_0_34, s_0_40, s_0_43, s_0_47I, s_0_47, s_0_48, s_0_49, s_0_55, s_0_58, s_0_62I, s_0_62, s_0_63, s_0_64, s_0_70, s_0_73, s_0_77I, s_0_77, s_0_78, s_0_79, s_0_85, s_0_88, s_0_92I, s_0_92, s_0_93, s_0_94, s_0_100, s_0_103, s_0_107I, s_0_107, s_0_111, s_0_114, s_0_118I, s_0_118, s_0_119, s_0_120, s_0_126, s_0_129, s_0_133I, s_0_133, s_0_137, s_0_140, s_0_141, s_0_145, s_0_148, s_0_152I, s_0_152, s_0_156, s_0_159, s_0_163I, s_0_163, s_0_167, s_0_170, s_0_171, s_0_173, s_0_176, s_0_177, s_0_178, s_0_181, s_0_182, s_0_183, s_0_186, s_0_187, s_0_188, s_0_191, s_0_192, s_0_193, s_0_196, s_0_197, s_0_203, n_0_1, n_0_7, n_0_18, n_0_29, n_0_44, n_0_59, n_0_74, n_0_89, n_0_104, n_0_115, n_0_130, n_0_143, n_0_149, n_0_160, true_and, and_true, sc0, sc1, sc2, sc3, sc4, Option.toList, List.cons_append, List.nil_append, clr, ne_eq, not_false_eq_true, not_true_eq_false, false_and, and_false, true_or, or_true, or_false, false_or, forall_const, Nat.reduceEqDiff, List.length_nil, List.length_cons, Nat.zero_le, Nat.reduceAdd, Nat.reduceLeDiff, false_implies, true_implies, Int.reduceEq, Int.reduceNe, Int.reduceLT, Int.reduceLE, Int.reduceNeg, Int.reduceToNat, Int.toNat_natCast, Nat.reduceLT, and_self, Decidable.not_not, Nat.reduceSub, Nat.sub_self, List.length_append, List.append_assoc, l2, l3, t3, t4, t4', z2, y2, z3, y3, zP_u n31, zP_u n21, zM_u n31, zM_u n21, ne2, k2, k2', k3, uM_z (m1 _)]
  rw [← hP1]
  obtain ⟨Pg, Mg, hEg, hPg, hMg⟩ := c_Ground (P := P1) (M := M00) (Vz_up hV1 (by decide)) (fun k => hV1 3 (by decide) k) d (by omega)
  rw [show L4 = LC.take 4 by decide +kernel, show L5 = LC.take 5 by decide +kernel, hMg] at hEg
  have hVg : Vz Pg (gM M00) 5 := fun o ho k => ⟨by rw [hPg, rP_ne (by omega)]; exact (hV1 o (by omega) k).1, by unfold gM; rw [if_neg (by omega), if_neg (by omega)]; exact (hV1 o (by omega) k).2⟩
  have f1 : ∀ k, gM M00 1 k = 0 := fun k => by unfold gM; rw [if_neg (by decide), if_neg (by decide)]; exact m1 k
  refine i_0_22 (Nat.le_of_ble_eq_true rfl) (by decide) (by decide) hEg ?_
  -- State 5
  obtain ⟨A1, hA1⟩ : ∃ J, J = uP Pg 1 2 3 := ⟨_, rfl⟩
  have hVa1 : Vz A1 (gM M00) 5 := by rw [hA1]; exact Vz_uP hVg (by decide)
  have ga1 : A1 1 2 = 3 := by rw [hA1]; simp [uP]
  have gb1 : (uP Pg 1 2 3) 1 2 = 3 := by rw [← hA1]; exact ga1
  have la1 : (LC.take 5).length = 5 := tk_len (by decide)
  have ta1 : LC.take 5 ++ [(0, 7)] = LC.take 6 := by decide +kernel
  have za1 : zP Pg 5 = Pg := Vz_P hVg
  have ya1 : zM (gM M00) 5 = gM M00 := Vz_M hVg
  have nx1 : ¬ (5 : Nat) = 1 := by decide
  have kx1 : ∀ b, kd (b, LC.take 5) 1 = (0, 10) := fun b => k1 b 3
  have ky1 : ∀ b, kd (b, LC.take 6) 1 = (0, 10) := fun b => k1 b 4
  have ne1_3 : ¬ (3 : Nat) = 0 := by decide
  simp only [s_0_0, s_0_4, s_0_5, s_0_9, s_0_12, s_0_13, s_0_14, s_0_17, s_0_21I, s_0_21, s_0_25, s_0_28, s_0_32I, s_0_32, s_0_33, s_0_34, s_0_40, s_0_43, s_0_47I, s_0_47, s_0_48, s_0_49, s_0_55, s_0_58, s_0_62I, s_0_62, s_0_63, s_0_64, s_0_70, s_0_73, s_0_77I, s_0_77, s_0_78, s_0_79, s_0_85, s_0_88, s_0_92I, s_0_92, s_0_93, s_0_94, s_0_100, s_0_103, s_0_107I, s_0_107, s_0_111, s_0_114, s_0_118I, s_0_118, s_0_119, s_0_120, s_0_126, s_0_129, s_0_133I, s_0_133, s_0_137, s_0_140, s_0_141, s_0_145, s_0_148, s_0_152I, s_0_152, s_0_156, s_0_159, s_0_163I, s_0_163, s_0_167, s_0_170, s_0_171, s_0_173, s_0_176, s_0_177, s_0_178, s_0_181, s_0_182, s_0_183, s_0_186, s_0_187, s_0_188, s_0_191, s_0_192, s_0_193, s_0_196, s_0_197, s_0_203, n_0_1, n_0_7, n_0_18, n_0_29, n_0_44, n_0_59, n_0_74, n_0_89, n_0_104, n_0_115, n_0_130, n_0_143, n_0_149, n_0_160, true_and, and_true, sc0, sc1, sc2, sc3, sc4, Option.toList, List.cons_append, List.nil_append, clr, ne_eq, not_false_eq_true, not_true_eq_false, false_and, and_false, true_or, or_true, or_false, false_or, forall_const, Nat.reduceEqDiff, List.length_nil, List.length_cons, Nat.zero_le, Nat.reduceAdd, Nat.reduceLeDiff, false_implies, true_implies, Int.reduceEq, Int.reduceNe, Int.reduceLT, Int.reduceLE, Int.reduceNeg, Int.reduceToNat, Int.toNat_natCast, Nat.reduceLT, and_self, Decidable.not_not, Nat.reduceSub, Nat.sub_self, List.length_append, List.append_assoc, gb1, la1, ta1, za1, ya1, zP_u nx1, kx1, ky1, ne1_3]
  rw [← hA1]
  obtain ⟨B1, N1, hE1, hB1, hN1⟩ := c_State (L := LC.take 6) (o := 5) (q := 3) (n := 6) (tk_len (by decide)) (by decide) (by decide +kernel) (by decide) (Vz_up hVa1 (by decide)) (fun k => hVa1 5 (by decide) k) d (by omega)
  rw [show LC.take 6 ++ [(1, 36), (1, 36), (1, 6), (1, 6), (1, 6), (1, 6), (1, 6)] = LC.take 13 by decide +kernel] at hE1
  rw [hN1] at hE1
  have hVB1 : Vz B1 (gM M00) 13 := by rw [hB1]; exact Vz_rP (Vz_up hVa1 (by decide)) (by decide)
  have gB1 : B1 1 2 = 3 := by rw [hB1, rP_ne (by decide)]; exact ga1
  refine i_0_37 (Nat.le_of_ble_eq_true rfl) (by decide) (by decide) hE1 ?_
  -- State 13
  obtain ⟨A2, hA2⟩ : ∃ J, J = uP B1 1 3 5 := ⟨_, rfl⟩
  have hVa2 : Vz A2 (gM M00) 13 := by rw [hA2]; exact Vz_uP hVB1 (by decide)
  have ga2 : A2 1 2 = 3 := by rw [hA2]; simp [uP, gB1]
  have gb2 : (uP B1 1 3 5) 1 2 = 3 := by rw [← hA2]; exact ga2
  have la2 : (LC.take 13).length = 13 := tk_len (by decide)
  have ta2 : LC.take 13 ++ [(0, 7)] = LC.take 14 := by decide +kernel
  have za2 : zP B1 13 = B1 := Vz_P hVB1
  have ya2 : zM (gM M00) 13 = gM M00 := Vz_M hVB1
  have nx2 : ¬ (13 : Nat) = 1 := by decide
  have kx2 : ∀ b, kd (b, LC.take 13) 1 = (0, 10) := fun b => k1 b 11
  have ky2 : ∀ b, kd (b, LC.take 14) 1 = (0, 10) := fun b => k1 b 12
  have ne2_3 : ¬ (3 : Nat) = 0 := by decide
  have ne2_5 : ¬ (5 : Nat) = 0 := by decide
  simp only [s_0_0, s_0_4, s_0_5, s_0_9, s_0_12, s_0_13, s_0_14, s_0_17, s_0_21I, s_0_21, s_0_25, s_0_28, s_0_32I, s_0_32, s_0_33, s_0_34, s_0_40, s_0_43, s_0_47I, s_0_47, s_0_48, s_0_49, s_0_55, s_0_58, s_0_62I, s_0_62, s_0_63, s_0_64, s_0_70, s_0_73, s_0_77I, s_0_77, s_0_78, s_0_79, s_0_85, s_0_88, s_0_92I, s_0_92, s_0_93, s_0_94, s_0_100, s_0_103, s_0_107I, s_0_107, s_0_111, s_0_114, s_0_118I, s_0_118, s_0_119, s_0_120, s_0_126, s_0_129, s_0_133I, s_0_133, s_0_137, s_0_140, s_0_141, s_0_145, s_0_148, s_0_152I, s_0_152, s_0_156, s_0_159, s_0_163I, s_0_163, s_0_167, s_0_170, s_0_171, s_0_173, s_0_176, s_0_177, s_0_178, s_0_181, s_0_182, s_0_183, s_0_186, s_0_187, s_0_188, s_0_191, s_0_192, s_0_193, s_0_196, s_0_197, s_0_203, n_0_1, n_0_7, n_0_18, n_0_29, n_0_44, n_0_59, n_0_74, n_0_89, n_0_104, n_0_115, n_0_130, n_0_143, n_0_149, n_0_160, true_and, and_true, sc0, sc1, sc2, sc3, sc4, Option.toList, List.cons_append, List.nil_append, clr, ne_eq, not_false_eq_true, not_true_eq_false, false_and, and_false, true_or, or_true, or_false, false_or, forall_const, Nat.reduceEqDiff, List.length_nil, List.length_cons, Nat.zero_le, Nat.reduceAdd, Nat.reduceLeDiff, false_implies, true_implies, Int.reduceEq, Int.reduceNe, Int.reduceLT, Int.reduceLE, Int.reduceNeg, Int.reduceToNat, Int.toNat_natCast, Nat.reduceLT, and_self, Decidable.not_not, Nat.reduceSub, Nat.sub_self, List.length_append, List.append_assoc, gb2, la2, ta2, za2, ya2, zP_u nx2, kx2, ky2, ne2_3, ne2_5]
  rw [← hA2]
  obtain ⟨B2, N2, hE2, hB2, hN2⟩ := c_State (L := LC.take 14) (o := 13) (q := 3) (n := 14) (tk_len (by decide)) (by decide) (by decide +kernel) (by decide) (Vz_up hVa2 (by decide)) (fun k => hVa2 13 (by decide) k) d (by omega)
  rw [show LC.take 14 ++ [(1, 36), (1, 36), (1, 6), (1, 6), (1, 6), (1, 6), (1, 6)] = LC.take 21 by decide +kernel] at hE2
  rw [hN2] at hE2
  have hVB2 : Vz B2 (gM M00) 21 := by rw [hB2]; exact Vz_rP (Vz_up hVa2 (by decide)) (by decide)
  have gB2 : B2 1 2 = 3 := by rw [hB2, rP_ne (by decide)]; exact ga2
  refine i_0_52 (Nat.le_of_ble_eq_true rfl) (by decide) (by decide) hE2 ?_
  -- State 21
  obtain ⟨A3, hA3⟩ : ∃ J, J = uP B2 1 4 13 := ⟨_, rfl⟩
  have hVa3 : Vz A3 (gM M00) 21 := by rw [hA3]; exact Vz_uP hVB2 (by decide)
  have ga3 : A3 1 2 = 3 := by rw [hA3]; simp [uP, gB2]
  have gb3 : (uP B2 1 4 13) 1 2 = 3 := by rw [← hA3]; exact ga3
  have la3 : (LC.take 21).length = 21 := tk_len (by decide)
  have ta3 : LC.take 21 ++ [(0, 7)] = LC.take 22 := by decide +kernel
  have za3 : zP B2 21 = B2 := Vz_P hVB2
  have ya3 : zM (gM M00) 21 = gM M00 := Vz_M hVB2
  have nx3 : ¬ (21 : Nat) = 1 := by decide
  have kx3 : ∀ b, kd (b, LC.take 21) 1 = (0, 10) := fun b => k1 b 19
  have ky3 : ∀ b, kd (b, LC.take 22) 1 = (0, 10) := fun b => k1 b 20
  have ne3_3 : ¬ (3 : Nat) = 0 := by decide
  have ne3_13 : ¬ (13 : Nat) = 0 := by decide
  simp only [s_0_0, s_0_4, s_0_5, s_0_9, s_0_12, s_0_13, s_0_14, s_0_17, s_0_21I, s_0_21, s_0_25, s_0_28, s_0_32I, s_0_32, s_0_33, s_0_34, s_0_40, s_0_43, s_0_47I, s_0_47, s_0_48, s_0_49, s_0_55, s_0_58, s_0_62I, s_0_62, s_0_63, s_0_64, s_0_70, s_0_73, s_0_77I, s_0_77, s_0_78, s_0_79, s_0_85, s_0_88, s_0_92I, s_0_92, s_0_93, s_0_94, s_0_100, s_0_103, s_0_107I, s_0_107, s_0_111, s_0_114, s_0_118I, s_0_118, s_0_119, s_0_120, s_0_126, s_0_129, s_0_133I, s_0_133, s_0_137, s_0_140, s_0_141, s_0_145, s_0_148, s_0_152I, s_0_152, s_0_156, s_0_159, s_0_163I, s_0_163, s_0_167, s_0_170, s_0_171, s_0_173, s_0_176, s_0_177, s_0_178, s_0_181, s_0_182, s_0_183, s_0_186, s_0_187, s_0_188, s_0_191, s_0_192, s_0_193, s_0_196, s_0_197, s_0_203, n_0_1, n_0_7, n_0_18, n_0_29, n_0_44, n_0_59, n_0_74, n_0_89, n_0_104, n_0_115, n_0_130, n_0_143, n_0_149, n_0_160, true_and, and_true, sc0, sc1, sc2, sc3, sc4, Option.toList, List.cons_append, List.nil_append, clr, ne_eq, not_false_eq_true, not_true_eq_false, false_and, and_false, true_or, or_true, or_false, false_or, forall_const, Nat.reduceEqDiff, List.length_nil, List.length_cons, Nat.zero_le, Nat.reduceAdd, Nat.reduceLeDiff, false_implies, true_implies, Int.reduceEq, Int.reduceNe, Int.reduceLT, Int.reduceLE, Int.reduceNeg, Int.reduceToNat, Int.toNat_natCast, Nat.reduceLT, and_self, Decidable.not_not, Nat.reduceSub, Nat.sub_self, List.length_append, List.append_assoc, gb3, la3, ta3, za3, ya3, zP_u nx3, kx3, ky3, ne3_3, ne3_13]
  rw [← hA3]
  obtain ⟨B3, N3, hE3, hB3, hN3⟩ := c_State (L := LC.take 22) (o := 21) (q := 3) (n := 22) (tk_len (by decide)) (by decide) (by decide +kernel) (by decide) (Vz_up hVa3 (by decide)) (fun k => hVa3 21 (by decide) k) d (by omega)
  rw [show LC.take 22 ++ [(1, 36), (1, 36), (1, 6), (1, 6), (1, 6), (1, 6), (1, 6)] = LC.take 29 by decide +kernel] at hE3
  rw [hN3] at hE3
  have hVB3 : Vz B3 (gM M00) 29 := by rw [hB3]; exact Vz_rP (Vz_up hVa3 (by decide)) (by decide)
  have gB3 : B3 1 2 = 3 := by rw [hB3, rP_ne (by decide)]; exact ga3
  refine i_0_67 (Nat.le_of_ble_eq_true rfl) (by decide) (by decide) hE3 ?_
  -- Past 29
  obtain ⟨A4, hA4⟩ : ∃ J, J = uP B3 1 5 21 := ⟨_, rfl⟩
  have hVa4 : Vz A4 (gM M00) 29 := by rw [hA4]; exact Vz_uP hVB3 (by decide)
  have ga4 : A4 1 2 = 3 := by rw [hA4]; simp [uP, gB3]
  have gb4 : (uP B3 1 5 21) 1 2 = 3 := by rw [← hA4]; exact ga4
  have la4 : (LC.take 29).length = 29 := tk_len (by decide)
  have ta4 : LC.take 29 ++ [(0, 4)] = LC.take 30 := by decide +kernel
  have za4 : zP B3 29 = B3 := Vz_P hVB3
  have ya4 : zM (gM M00) 29 = gM M00 := Vz_M hVB3
  have nx4 : ¬ (29 : Nat) = 1 := by decide
  have kx4 : ∀ b, kd (b, LC.take 29) 1 = (0, 10) := fun b => k1 b 27
  have ky4 : ∀ b, kd (b, LC.take 30) 1 = (0, 10) := fun b => k1 b 28
  have ne4_3 : ¬ (3 : Nat) = 0 := by decide
  have ne4_21 : ¬ (21 : Nat) = 0 := by decide
  simp only [s_0_0, s_0_4, s_0_5, s_0_9, s_0_12, s_0_13, s_0_14, s_0_17, s_0_21I, s_0_21, s_0_25, s_0_28, s_0_32I, s_0_32, s_0_33, s_0_34, s_0_40, s_0_43, s_0_47I, s_0_47, s_0_48, s_0_49, s_0_55, s_0_58, s_0_62I, s_0_62, s_0_63, s_0_64, s_0_70, s_0_73, s_0_77I, s_0_77, s_0_78, s_0_79, s_0_85, s_0_88, s_0_92I, s_0_92, s_0_93, s_0_94, s_0_100, s_0_103, s_0_107I, s_0_107, s_0_111, s_0_114, s_0_118I, s_0_118, s_0_119, s_0_120, s_0_126, s_0_129, s_0_133I, s_0_133, s_0_137, s_0_140, s_0_141, s_0_145, s_0_148, s_0_152I, s_0_152, s_0_156, s_0_159, s_0_163I, s_0_163, s_0_167, s_0_170, s_0_171, s_0_173, s_0_176, s_0_177, s_0_178, s_0_181, s_0_182, s_0_183, s_0_186, s_0_187, s_0_188, s_0_191, s_0_192, s_0_193, s_0_196, s_0_197, s_0_203, n_0_1, n_0_7, n_0_18, n_0_29, n_0_44, n_0_59, n_0_74, n_0_89, n_0_104, n_0_115, n_0_130, n_0_143, n_0_149, n_0_160, true_and, and_true, sc0, sc1, sc2, sc3, sc4, Option.toList, List.cons_append, List.nil_append, clr, ne_eq, not_false_eq_true, not_true_eq_false, false_and, and_false, true_or, or_true, or_false, false_or, forall_const, Nat.reduceEqDiff, List.length_nil, List.length_cons, Nat.zero_le, Nat.reduceAdd, Nat.reduceLeDiff, false_implies, true_implies, Int.reduceEq, Int.reduceNe, Int.reduceLT, Int.reduceLE, Int.reduceNeg, Int.reduceToNat, Int.toNat_natCast, Nat.reduceLT, and_self, Decidable.not_not, Nat.reduceSub, Nat.sub_self, List.length_append, List.append_assoc, gb4, la4, ta4, za4, ya4, zP_u nx4, kx4, ky4, ne4_3, ne4_21]
  rw [← hA4]
  obtain ⟨B4, N4, hE4, hB4, hN4⟩ := c_Past (P := A4) (M := gM M00) (Vz_up hVa4 (by decide)) (fun k => hVa4 29 (by decide) k) d (by omega)
  rw [hN4] at hE4
  have hVB4 : Vz B4 (gM M00) 145 := by
    rw [hB4]
    exact pst_z (show 31 < 129 by decide) (pst_z (show 30 < 33 by decide) (Vz_uP (Vz_uP (Vz_uP (Vz_up hVa4 (by decide)) (by decide)) (by decide)) (by decide)) 12) 2
  have gB4 : B4 1 2 = 3 := by
    rw [hB4]
    show pst (pst (uP (uP (uP A4 29 0 30) 29 1 31) 29 2 32) 30 33 12) 31 129 2 1 2 = 3
    rw [pst_ne (by decide) (by decide), pst_ne (by decide) (by decide), uP_ne (by decide), uP_ne (by decide), uP_ne (by decide)]; exact ga4
  refine i_0_82 (Nat.le_of_ble_eq_true rfl) (by decide) (by decide) hE4 ?_
  -- Band 145
  obtain ⟨A5, hA5⟩ : ∃ J, J = uP B4 1 6 29 := ⟨_, rfl⟩
  have hVa5 : Vz A5 (gM M00) 145 := by rw [hA5]; exact Vz_uP hVB4 (by decide)
  have ga5 : A5 1 2 = 3 := by rw [hA5]; simp [uP, gB4]
  have gb5 : (uP B4 1 6 29) 1 2 = 3 := by rw [← hA5]; exact ga5
  have la5 : (LC.take 145).length = 145 := tk_len (by decide)
  have ta5 : LC.take 145 ++ [(0, 0)] = LC.take 146 := by decide +kernel
  have za5 : zP B4 145 = B4 := Vz_P hVB4
  have ya5 : zM (gM M00) 145 = gM M00 := Vz_M hVB4
  have nx5 : ¬ (145 : Nat) = 1 := by decide
  have kx5 : ∀ b, kd (b, LC.take 145) 1 = (0, 10) := fun b => k1 b 143
  have ky5 : ∀ b, kd (b, LC.take 146) 1 = (0, 10) := fun b => k1 b 144
  have ne5_3 : ¬ (3 : Nat) = 0 := by decide
  have ne5_29 : ¬ (29 : Nat) = 0 := by decide
  simp only [s_0_0, s_0_4, s_0_5, s_0_9, s_0_12, s_0_13, s_0_14, s_0_17, s_0_21I, s_0_21, s_0_25, s_0_28, s_0_32I, s_0_32, s_0_33, s_0_34, s_0_40, s_0_43, s_0_47I, s_0_47, s_0_48, s_0_49, s_0_55, s_0_58, s_0_62I, s_0_62, s_0_63, s_0_64, s_0_70, s_0_73, s_0_77I, s_0_77, s_0_78, s_0_79, s_0_85, s_0_88, s_0_92I, s_0_92, s_0_93, s_0_94, s_0_100, s_0_103, s_0_107I, s_0_107, s_0_111, s_0_114, s_0_118I, s_0_118, s_0_119, s_0_120, s_0_126, s_0_129, s_0_133I, s_0_133, s_0_137, s_0_140, s_0_141, s_0_145, s_0_148, s_0_152I, s_0_152, s_0_156, s_0_159, s_0_163I, s_0_163, s_0_167, s_0_170, s_0_171, s_0_173, s_0_176, s_0_177, s_0_178, s_0_181, s_0_182, s_0_183, s_0_186, s_0_187, s_0_188, s_0_191, s_0_192, s_0_193, s_0_196, s_0_197, s_0_203, n_0_1, n_0_7, n_0_18, n_0_29, n_0_44, n_0_59, n_0_74, n_0_89, n_0_104, n_0_115, n_0_130, n_0_143, n_0_149, n_0_160, true_and, and_true, sc0, sc1, sc2, sc3, sc4, Option.toList, List.cons_append, List.nil_append, clr, ne_eq, not_false_eq_true, not_true_eq_false, false_and, and_false, true_or, or_true, or_false, false_or, forall_const, Nat.reduceEqDiff, List.length_nil, List.length_cons, Nat.zero_le, Nat.reduceAdd, Nat.reduceLeDiff, false_implies, true_implies, Int.reduceEq, Int.reduceNe, Int.reduceLT, Int.reduceLE, Int.reduceNeg, Int.reduceToNat, Int.toNat_natCast, Nat.reduceLT, and_self, Decidable.not_not, Nat.reduceSub, Nat.sub_self, List.length_append, List.append_assoc, gb5, la5, ta5, za5, ya5, zP_u nx5, kx5, ky5, ne5_3, ne5_29]
  rw [← hA5]
  obtain ⟨B5, N5, hE5, hB5, hN5⟩ := c_Band (P := A5) (M := gM M00) (Vz_up hVa5 (by decide)) (fun k => hVa5 145 (by decide) k) d (by omega)
  rw [hN5] at hE5
  have hVB5 : Vz B5 (gM M00) 164 := by
    rw [hB5]
    exact bst_z (Vz_uP (Vz_rP (Vz_uP (Vz_uP (Vz_uP (Vz_uP (Vz_up hVa5 (by decide)) (by decide)) (by decide)) (by decide)) (by decide)) (by decide)) (by decide)) 6
  have gB5 : B5 1 2 = 3 := by
    rw [hB5]
    show bst (uP (rP (uP (uP (uP (uP A5 145 2 146) 145 3 147) 145 4 148) 145 0 3) 149 [3, 150, 151]) 145 1 149) 6 1 2 = 3
    rw [bst_ne (by decide) (by decide), uP_ne (by decide), rP_ne (by decide), uP_ne (by decide), uP_ne (by decide), uP_ne (by decide), uP_ne (by decide)]; exact ga5
  refine i_0_97 (Nat.le_of_ble_eq_true rfl) (by decide) (by decide) hE5 ?_
  -- Lines 164
  obtain ⟨A6, hA6⟩ : ∃ J, J = uP B5 1 7 145 := ⟨_, rfl⟩
  have hVa6 : Vz A6 (gM M00) 164 := by rw [hA6]; exact Vz_uP hVB5 (by decide)
  have ga6 : A6 1 2 = 3 := by rw [hA6]; simp [uP, gB5]
  have la6 : (LC.take 164).length = 164 := tk_len (by decide)
  have ta6 : LC.take 164 ++ [(0, 2)] = LC.take 165 := by decide +kernel
  have za6 : zP B5 164 = B5 := Vz_P hVB5
  have ya6 : zM (gM M00) 164 = gM M00 := Vz_M hVB5
  have nx6 : ¬ (164 : Nat) = 1 := by decide
  have kx6 : ∀ b, kd (b, LC.take 164) 1 = (0, 10) := fun b => k1 b 162
  have ky6 : ∀ b, kd (b, LC.take 165) 1 = (0, 10) := fun b => k1 b 163
  have ne6_145 : ¬ (145 : Nat) = 0 := by decide
  simp only [s_0_0, s_0_4, s_0_5, s_0_9, s_0_12, s_0_13, s_0_14, s_0_17, s_0_21I, s_0_21, s_0_25, s_0_28, s_0_32I, s_0_32, s_0_33, s_0_34, s_0_40, s_0_43, s_0_47I, s_0_47, s_0_48, s_0_49, s_0_55, s_0_58, s_0_62I, s_0_62, s_0_63, s_0_64, s_0_70, s_0_73, s_0_77I, s_0_77, s_0_78, s_0_79, s_0_85, s_0_88, s_0_92I, s_0_92, s_0_93, s_0_94, s_0_100, s_0_103, s_0_107I, s_0_107, s_0_111, s_0_114, s_0_118I, s_0_118, s_0_119, s_0_120, s_0_126, s_0_129, s_0_133I, s_0_133, s_0_137, s_0_140, s_0_141, s_0_145, s_0_148, s_0_152I, s_0_152, s_0_156, s_0_159, s_0_163I, s_0_163, s_0_167, s_0_170, s_0_171, s_0_173, s_0_176, s_0_177, s_0_178, s_0_181, s_0_182, s_0_183, s_0_186, s_0_187, s_0_188, s_0_191, s_0_192, s_0_193, s_0_196, s_0_197, s_0_203, n_0_1, n_0_7, n_0_18, n_0_29, n_0_44, n_0_59, n_0_74, n_0_89, n_0_104, n_0_115, n_0_130, n_0_143, n_0_149, n_0_160, true_and, and_true, sc0, sc1, sc2, sc3, sc4, Option.toList, List.cons_append, List.nil_append, clr, ne_eq, not_false_eq_true, not_true_eq_false, false_and, and_false, true_or, or_true, or_false, false_or, forall_const, Nat.reduceEqDiff, List.length_nil, List.length_cons, Nat.zero_le, Nat.reduceAdd, Nat.reduceLeDiff, false_implies, true_implies, Int.reduceEq, Int.reduceNe, Int.reduceLT, Int.reduceLE, Int.reduceNeg, Int.reduceToNat, Int.toNat_natCast, Nat.reduceLT, and_self, Decidable.not_not, Nat.reduceSub, Nat.sub_self, List.length_append, List.append_assoc, la6, ta6, za6, ya6, zP_u nx6, kx6, ky6, ne6_145]
  rw [← hA6]
  obtain ⟨B6, N6, hE6, hB6, hN6⟩ := c_Lines (L := LC.take 165) (o := 164) (n := 165) (tk_len (by decide)) (by decide) (by decide +kernel) (Vz_up hVa6 (by decide)) (fun k => hVa6 164 (by decide) k) d (by omega)
  rw [show LC.take 165 ++ [(1, 6), (1, 6), (1, 6)] = LC.take 168 by decide +kernel] at hE6
  rw [hN6] at hE6
  have hVB6 : Vz B6 (gM M00) 168 := by rw [hB6]; exact Vz_rP (Vz_up hVa6 (by decide)) (by decide)
  have gB6 : B6 1 2 = 3 := by rw [hB6, rP_ne (by decide)]; exact ga6
  refine i_0_108 (Nat.le_of_ble_eq_true rfl) (by decide) (by decide) hE6 ?_
  -- Parting 168
  obtain ⟨A7, hA7⟩ : ∃ J, J = uP B6 1 8 164 := ⟨_, rfl⟩
  have hVa7 : Vz A7 (gM M00) 168 := by rw [hA7]; exact Vz_uP hVB6 (by decide)
  have ga7 : A7 1 2 = 3 := by rw [hA7]; simp [uP, gB6]
  have gb7 : (uP B6 1 8 164) 1 2 = 3 := by rw [← hA7]; exact ga7
  have la7 : (LC.take 168).length = 168 := tk_len (by decide)
  have ta7 : LC.take 168 ++ [(0, 3)] = LC.take 169 := by decide +kernel
  have za7 : zP B6 168 = B6 := Vz_P hVB6
  have ya7 : zM (gM M00) 168 = gM M00 := Vz_M hVB6
  have nx7 : ¬ (168 : Nat) = 1 := by decide
  have kx7 : ∀ b, kd (b, LC.take 168) 1 = (0, 10) := fun b => k1 b 166
  have ky7 : ∀ b, kd (b, LC.take 169) 1 = (0, 10) := fun b => k1 b 167
  have ne7_3 : ¬ (3 : Nat) = 0 := by decide
  have ne7_164 : ¬ (164 : Nat) = 0 := by decide
  simp only [s_0_0, s_0_4, s_0_5, s_0_9, s_0_12, s_0_13, s_0_14, s_0_17, s_0_21I, s_0_21, s_0_25, s_0_28, s_0_32I, s_0_32, s_0_33, s_0_34, s_0_40, s_0_43, s_0_47I, s_0_47, s_0_48, s_0_49, s_0_55, s_0_58, s_0_62I, s_0_62, s_0_63, s_0_64, s_0_70, s_0_73, s_0_77I, s_0_77, s_0_78, s_0_79, s_0_85, s_0_88, s_0_92I, s_0_92, s_0_93, s_0_94, s_0_100, s_0_103, s_0_107I, s_0_107, s_0_111, s_0_114, s_0_118I, s_0_118, s_0_119, s_0_120, s_0_126, s_0_129, s_0_133I, s_0_133, s_0_137, s_0_140, s_0_141, s_0_145, s_0_148, s_0_152I, s_0_152, s_0_156, s_0_159, s_0_163I, s_0_163, s_0_167, s_0_170, s_0_171, s_0_173, s_0_176, s_0_177, s_0_178, s_0_181, s_0_182, s_0_183, s_0_186, s_0_187, s_0_188, s_0_191, s_0_192, s_0_193, s_0_196, s_0_197, s_0_203, n_0_1, n_0_7, n_0_18, n_0_29, n_0_44, n_0_59, n_0_74, n_0_89, n_0_104, n_0_115, n_0_130, n_0_143, n_0_149, n_0_160, true_and, and_true, sc0, sc1, sc2, sc3, sc4, Option.toList, List.cons_append, List.nil_append, clr, ne_eq, not_false_eq_true, not_true_eq_false, false_and, and_false, true_or, or_true, or_false, false_or, forall_const, Nat.reduceEqDiff, List.length_nil, List.length_cons, Nat.zero_le, Nat.reduceAdd, Nat.reduceLeDiff, false_implies, true_implies, Int.reduceEq, Int.reduceNe, Int.reduceLT, Int.reduceLE, Int.reduceNeg, Int.reduceToNat, Int.toNat_natCast, Nat.reduceLT, and_self, Decidable.not_not, Nat.reduceSub, Nat.sub_self, List.length_append, List.append_assoc, gb7, la7, ta7, za7, ya7, zP_u nx7, kx7, ky7, ne7_3, ne7_164]
  rw [← hA7]
  obtain ⟨B7, N7, hE7, hB7, hN7⟩ := c_Parting (L := LC.take 169) (o := 168) (q := 3) (n := 169) (tk_len (by decide)) (by decide) (by decide +kernel) (by decide) (Vz_up hVa7 (by decide)) (fun k => hVa7 168 (by decide) k) d (by omega)
  rw [show LC.take 169 ++ [(5, 4), (1, 72), (1, 72)] = LC.take 172 by decide +kernel] at hE7
  rw [hN7] at hE7
  have hVB7 : Vz B7 (gM M00) 172 := by rw [hB7]; exact Vz_rP (Vz_up hVa7 (by decide)) (by decide)
  have gB7 : B7 1 2 = 3 := by rw [hB7, rP_ne (by decide)]; exact ga7
  refine i_0_123 (Nat.le_of_ble_eq_true rfl) (by decide) (by decide) hE7 ?_
  -- Told 172
  obtain ⟨A8, hA8⟩ : ∃ J, J = uP B7 1 9 168 := ⟨_, rfl⟩
  have hVa8 : Vz A8 (gM M00) 172 := by rw [hA8]; exact Vz_uP hVB7 (by decide)
  have ga8 : A8 1 2 = 3 := by rw [hA8]; simp [uP, gB7]
  have la8 : (LC.take 172).length = 172 := tk_len (by decide)
  have ta8 : LC.take 172 ++ [(0, 8)] = LC.take 173 := by decide +kernel
  have za8 : zP B7 172 = B7 := Vz_P hVB7
  have ya8 : zM (gM M00) 172 = gM M00 := Vz_M hVB7
  have nx8 : ¬ (172 : Nat) = 1 := by decide
  have kx8 : ∀ b, kd (b, LC.take 172) 1 = (0, 10) := fun b => k1 b 170
  have ky8 : ∀ b, kd (b, LC.take 173) 1 = (0, 10) := fun b => k1 b 171
  have ne8_168 : ¬ (168 : Nat) = 0 := by decide
  simp only [s_0_0, s_0_4, s_0_5, s_0_9, s_0_12, s_0_13, s_0_14, s_0_17, s_0_21I, s_0_21, s_0_25, s_0_28, s_0_32I, s_0_32, s_0_33, s_0_34, s_0_40, s_0_43, s_0_47I, s_0_47, s_0_48, s_0_49, s_0_55, s_0_58, s_0_62I, s_0_62, s_0_63, s_0_64, s_0_70, s_0_73, s_0_77I, s_0_77, s_0_78, s_0_79, s_0_85, s_0_88, s_0_92I, s_0_92, s_0_93, s_0_94, s_0_100, s_0_103, s_0_107I, s_0_107, s_0_111, s_0_114, s_0_118I, s_0_118, s_0_119, s_0_120, s_0_126, s_0_129, s_0_133I, s_0_133, s_0_137, s_0_140, s_0_141, s_0_145, s_0_148, s_0_152I, s_0_152, s_0_156, s_0_159, s_0_163I, s_0_163, s_0_167, s_0_170, s_0_171, s_0_173, s_0_176, s_0_177, s_0_178, s_0_181, s_0_182, s_0_183, s_0_186, s_0_187, s_0_188, s_0_191, s_0_192, s_0_193, s_0_196, s_0_197, s_0_203, n_0_1, n_0_7, n_0_18, n_0_29, n_0_44, n_0_59, n_0_74, n_0_89, n_0_104, n_0_115, n_0_130, n_0_143, n_0_149, n_0_160, true_and, and_true, sc0, sc1, sc2, sc3, sc4, Option.toList, List.cons_append, List.nil_append, clr, ne_eq, not_false_eq_true, not_true_eq_false, false_and, and_false, true_or, or_true, or_false, false_or, forall_const, Nat.reduceEqDiff, List.length_nil, List.length_cons, Nat.zero_le, Nat.reduceAdd, Nat.reduceLeDiff, false_implies, true_implies, Int.reduceEq, Int.reduceNe, Int.reduceLT, Int.reduceLE, Int.reduceNeg, Int.reduceToNat, Int.toNat_natCast, Nat.reduceLT, and_self, Decidable.not_not, Nat.reduceSub, Nat.sub_self, List.length_append, List.append_assoc, la8, ta8, za8, ya8, zP_u nx8, kx8, ky8, ne8_168]
  rw [← hA8]
  obtain ⟨B8, N8, hE8, hB8, hN8⟩ := c_Told (L := LC.take 173) (o := 172) (n := 173) (tk_len (by decide)) (by decide) (by decide +kernel) (Vz_up hVa8 (by decide)) (fun k => hVa8 172 (by decide) k) d (by omega)
  rw [show LC.take 173 ++ [(5, 36)] = LC.take 174 by decide +kernel] at hE8
  rw [hN8] at hE8
  have hVB8 : Vz B8 (gM M00) 174 := by rw [hB8]; exact Vz_rP (Vz_up hVa8 (by decide)) (by decide)
  have gB8 : B8 1 2 = 3 := by rw [hB8, rP_ne (by decide)]; exact ga8
  refine i_0_134 (Nat.le_of_ble_eq_true rfl) (by decide) (by decide) hE8 ?_
  -- Rule 175
  obtain ⟨A9, hA9⟩ : ∃ J, J = uP (uP B8 1 10 172) 1 11 174 := ⟨_, rfl⟩
  have hVa9 : Vz A9 (gM M00) 174 := by rw [hA9]; exact Vz_uP (Vz_uP hVB8 (by decide)) (by decide)
  have ga9 : A9 1 2 = 3 := by rw [hA9]; simp [uP, gB8]
  have la9 : (LC.take 174).length = 174 := tk_len (by decide)
  have ta9 : LC.take 174 ++ [(1, 41)] = LC.take 175 := by decide +kernel
  have tb9 : LC.take 174 ++ [(1, 41), (0, 6)] = LC.take 176 := by decide +kernel
  have za9 : zP B8 174 = B8 := Vz_P hVB8
  have ya9 : zM (gM M00) 174 = gM M00 := Vz_M hVB8
  have zb9 : zP B8 175 = B8 := Vz_Pj hVB8 1
  have yb9 : zM (gM M00) 175 = gM M00 := Vz_Mj hVB8 1
  have nx9 : ¬ (174 : Nat) = 1 := by decide
  have ny9 : ¬ (175 : Nat) = 1 := by decide
  have kx9 : ∀ b, kd (b, LC.take 174) 1 = (0, 10) := fun b => k1 b 172
  have ky9 : ∀ b l, kd (b, LC.take 174 ++ l) 1 = (0, 10) := fun b l => kd_a (by rw [la9]; decide) (kx9 b)
  have kz9 : ∀ b, kd (b, LC.take 175) 1 = (0, 10) := fun b => k1 b 173
  have lb9 : (LC.take 175).length = 175 := tk_len (by decide)
  have tc9 : LC.take 175 ++ [(0, 6)] = LC.take 176 := by decide +kernel
  have ne9_172 : ¬ (172 : Nat) = 0 := by decide
  have ne9_174 : ¬ (174 : Nat) = 0 := by decide
  simp only [s_0_0, s_0_4, s_0_5, s_0_9, s_0_12, s_0_13, s_0_14, s_0_17, s_0_21I, s_0_21, s_0_25, s_0_28, s_0_32I, s_0_32, s_0_33, s_0_34, s_0_40, s_0_43, s_0_47I, s_0_47, s_0_48, s_0_49, s_0_55, s_0_58, s_0_62I, s_0_62, s_0_63, s_0_64, s_0_70, s_0_73, s_0_77I, s_0_77, s_0_78, s_0_79, s_0_85, s_0_88, s_0_92I, s_0_92, s_0_93, s_0_94, s_0_100, s_0_103, s_0_107I, s_0_107, s_0_111, s_0_114, s_0_118I, s_0_118, s_0_119, s_0_120, s_0_126, s_0_129, s_0_133I, s_0_133, s_0_137, s_0_140, s_0_141, s_0_145, s_0_148, s_0_152I, s_0_152, s_0_156, s_0_159, s_0_163I, s_0_163, s_0_167, s_0_170, s_0_171, s_0_173, s_0_176, s_0_177, s_0_178, s_0_181, s_0_182, s_0_183, s_0_186, s_0_187, s_0_188, s_0_191, s_0_192, s_0_193, s_0_196, s_0_197, s_0_203, n_0_1, n_0_7, n_0_18, n_0_29, n_0_44, n_0_59, n_0_74, n_0_89, n_0_104, n_0_115, n_0_130, n_0_143, n_0_149, n_0_160, true_and, and_true, sc0, sc1, sc2, sc3, sc4, Option.toList, List.cons_append, List.nil_append, clr, ne_eq, not_false_eq_true, not_true_eq_false, false_and, and_false, true_or, or_true, or_false, false_or, forall_const, Nat.reduceEqDiff, List.length_nil, List.length_cons, Nat.zero_le, Nat.reduceAdd, Nat.reduceLeDiff, false_implies, true_implies, Int.reduceEq, Int.reduceNe, Int.reduceLT, Int.reduceLE, Int.reduceNeg, Int.reduceToNat, Int.toNat_natCast, Nat.reduceLT, and_self, Decidable.not_not, Nat.reduceSub, Nat.sub_self, List.length_append, List.append_assoc, la9, ta9, tb9, za9, ya9, zb9, yb9, zP_u nx9, zP_u ny9, kx9, ky9, kz9, lb9, tc9, ne9_172, ne9_174]
  rw [← hA9]
  obtain ⟨B9, N9, hE9, hB9, hN9⟩ := c_Rule (L := LC.take 176) (o := 175) (n := 176) (tk_len (by decide)) (by decide) (by decide +kernel) (Vz_up hVa9 (by decide)) (fun k => hVa9 175 (by decide) k) d (by omega)
  rw [show LC.take 176 ++ [(1, 40), (1, 40), (4, 40), (2, 5)] = LC.take 180 by decide +kernel] at hE9
  rw [hN9] at hE9
  have hVB9 : Vz B9 (uM (gM M00) 175 8 1) 180 := by rw [hB9]; exact Vz_uM (Vz_rP (Vz_up hVa9 (by decide)) (by decide)) (by decide)
  have gB9 : B9 1 2 = 3 := by rw [hB9, rP_ne (by decide)]; exact ga9
  refine i_0_153 (Nat.le_of_ble_eq_true rfl) (by decide) (by decide) hE9 ?_
  -- Rule 180
  obtain ⟨A10, hA10⟩ : ∃ J, J = uP B9 1 12 175 := ⟨_, rfl⟩
  have hVa10 : Vz A10 (uM (gM M00) 175 8 1) 180 := by rw [hA10]; exact Vz_uP hVB9 (by decide)
  have ga10 : A10 1 2 = 3 := by rw [hA10]; simp [uP, gB9]
  have la10 : (LC.take 180).length = 180 := tk_len (by decide)
  have ta10 : LC.take 180 ++ [(0, 6)] = LC.take 181 := by decide +kernel
  have za10 : zP B9 180 = B9 := Vz_P hVB9
  have ya10 : zM (uM (gM M00) 175 8 1) 180 = uM (gM M00) 175 8 1 := Vz_M hVB9
  have nx10 : ¬ (180 : Nat) = 1 := by decide
  have kx10 : ∀ b, kd (b, LC.take 180) 1 = (0, 10) := fun b => k1 b 178
  have ky10 : ∀ b, kd (b, LC.take 181) 1 = (0, 10) := fun b => k1 b 179
  have ne10_175 : ¬ (175 : Nat) = 0 := by decide
  simp only [s_0_0, s_0_4, s_0_5, s_0_9, s_0_12, s_0_13, s_0_14, s_0_17, s_0_21I, s_0_21, s_0_25, s_0_28, s_0_32I, s_0_32, s_0_33, s_0_34, s_0_40, s_0_43, s_0_47I, s_0_47, s_0_48, s_0_49, s_0_55, s_0_58, s_0_62I, s_0_62, s_0_63, s_0_64, s_0_70, s_0_73, s_0_77I, s_0_77, s_0_78, s_0_79, s_0_85, s_0_88, s_0_92I, s_0_92, s_0_93, s_0_94, s_0_100, s_0_103, s_0_107I, s_0_107, s_0_111, s_0_114, s_0_118I, s_0_118, s_0_119, s_0_120, s_0_126, s_0_129, s_0_133I, s_0_133, s_0_137, s_0_140, s_0_141, s_0_145, s_0_148, s_0_152I, s_0_152, s_0_156, s_0_159, s_0_163I, s_0_163, s_0_167, s_0_170, s_0_171, s_0_173, s_0_176, s_0_177, s_0_178, s_0_181, s_0_182, s_0_183, s_0_186, s_0_187, s_0_188, s_0_191, s_0_192, s_0_193, s_0_196, s_0_197, s_0_203, n_0_1, n_0_7, n_0_18, n_0_29, n_0_44, n_0_59, n_0_74, n_0_89, n_0_104, n_0_115, n_0_130, n_0_143, n_0_149, n_0_160, true_and, and_true, sc0, sc1, sc2, sc3, sc4, Option.toList, List.cons_append, List.nil_append, clr, ne_eq, not_false_eq_true, not_true_eq_false, false_and, and_false, true_or, or_true, or_false, false_or, forall_const, Nat.reduceEqDiff, List.length_nil, List.length_cons, Nat.zero_le, Nat.reduceAdd, Nat.reduceLeDiff, false_implies, true_implies, Int.reduceEq, Int.reduceNe, Int.reduceLT, Int.reduceLE, Int.reduceNeg, Int.reduceToNat, Int.toNat_natCast, Nat.reduceLT, and_self, Decidable.not_not, Nat.reduceSub, Nat.sub_self, List.length_append, List.append_assoc, la10, ta10, za10, ya10, zP_u nx10, kx10, ky10, ne10_175]
  rw [← hA10]
  obtain ⟨B10, N10, hE10, hB10, hN10⟩ := c_Rule (L := LC.take 181) (o := 180) (n := 181) (tk_len (by decide)) (by decide) (by decide +kernel) (Vz_up hVa10 (by decide)) (fun k => hVa10 180 (by decide) k) d (by omega)
  rw [show LC.take 181 ++ [(1, 40), (1, 40), (4, 40), (2, 5)] = LC.take 185 by decide +kernel] at hE10
  rw [hN10] at hE10
  have hVB10 : Vz B10 (uM (uM (gM M00) 175 8 1) 180 8 1) 185 := by rw [hB10]; exact Vz_uM (Vz_rP (Vz_up hVa10 (by decide)) (by decide)) (by decide)
  have gB10 : B10 1 2 = 3 := by rw [hB10, rP_ne (by decide)]; exact ga10
  refine i_0_164 (Nat.le_of_ble_eq_true rfl) (by decide) (by decide) hE10 ?_
  -- the end
  have kE : ∀ b, kd (b, LC.take 185) 1 = (0, 10) := fun b => k1 b 183
  have kL : kd ((0, 0), LC) 1 = (0, 10) := rfl
  have ne180 : ¬ (180 : Nat) = 0 := by decide
  have ne175 : ¬ (175 : Nat) = 0 := by decide
  obtain ⟨MF, hMF⟩ : ∃ J, J = uM (uM (uM (gM M00) 175 8 1) 180 8 1) 1 14 20 := ⟨_, rfl⟩
  have z15 : ∀ k, k ≠ 14 → MF 1 k = 0 := fun k hk => by rw [hMF, uM_at, if_pos rfl, if_neg hk, uM_ne (by decide), uM_ne (by decide)]; exact f1 k
  have y15 : uM MF 1 15 0 = MF := uM_z (z15 15 (by decide))
  have y16 : uM MF 1 16 0 = MF := uM_z (z15 16 (by decide))
  have y17 : uM MF 1 17 0 = MF := uM_z (z15 17 (by decide))
  have y18 : uM MF 1 18 0 = MF := uM_z (z15 18 (by decide))
  have hPF : uP B10 1 13 180 = PC false := by
    rw [hB10, hA10, hB9, hA9, hB8, hA8, hB7, hA7, hB6, hA6, hB5, hA5, hB4, hA4, hB3, hA3, hB2, hA2, hB1, hA1, hPg, hP1]
    refine fin_eq (SV_u (SV_r (SV_u (SV_r (SV_u (SV_u (SV_r (SV_u (SV_r (SV_u (SV_r (SV_u (SV_b (SV_u (SV_r (SV_u (SV_u (SV_u (SV_u (SV_u (SV_p (SV_p (SV_u (SV_u (SV_u (SV_u (SV_r (SV_u (SV_r (SV_u (SV_r (SV_u (SV_r (SV_u (fun _ _ _ => rfl) (by decide) (by decide)) (by decide) (by decide)) (by decide) (by decide)) (by decide) (by decide)) (by decide) (by decide)) (by decide) (by decide)) (by decide) (by decide)) (by decide) (by decide)) (by decide) (by decide)) (by decide) (by decide)) (by decide) (by decide)) (by decide) (by decide)) (by decide) 12 (by decide) (by decide)) (by decide) 2 (by decide) (by decide)) (by decide) (by decide)) (by decide) (by decide)) (by decide) (by decide)) (by decide) (by decide)) (by decide) (by decide)) (by decide) (by decide)) (by decide) (by decide)) 6 (by decide)) (by decide) (by decide)) (by decide) (by decide)) (by decide) (by decide)) (by decide) (by decide)) (by decide) (by decide)) (by decide) (by decide)) (by decide) (by decide)) (by decide) (by decide)) (by decide) (by decide)) (by decide) (by decide)) (by decide) (by decide)) (by decide) (by decide)) SV_PC ?_
    decide +kernel
  have g12 : PC false 1 12 = 175 := rfl
  have tE : LC.take 185 = LC := by decide +kernel
  obtain ⟨x, PE, ME, hE, rfl, rfl, e1, e2⟩ := c_readPlain (b := false) (q := 175) (M := MF) (by unfold ruQ; decide) (fun j hj => by rw [hMF, uM_ne (by decide), uM_ne (by decide), uM_ne (by decide)]; unfold gM; rw [if_neg (by decide), if_neg (by decide)]; rfl) d (by omega)
  simp only [s_0_0, s_0_4, s_0_5, s_0_9, s_0_12, s_0_13, s_0_14, s_0_17, s_0_21I, s_0_21, s_0_25, s_0_28, s_0_32I, s_0_32, s_0_33, s_0_34, s_0_40, s_0_43, s_0_47I, s_0_47, s_0_48, s_0_49, s_0_55, s_0_58, s_0_62I, s_0_62, s_0_63, s_0_64, s_0_70, s_0_73, s_0_77I, s_0_77, s_0_78, s_0_79, s_0_85, s_0_88, s_0_92I, s_0_92, s_0_93, s_0_94, s_0_100, s_0_103, s_0_107I, s_0_107, s_0_111, s_0_114, s_0_118I, s_0_118, s_0_119, s_0_120, s_0_126, s_0_129, s_0_133I, s_0_133, s_0_137, s_0_140, s_0_141, s_0_145, s_0_148, s_0_152I, s_0_152, s_0_156, s_0_159, s_0_163I, s_0_163, s_0_167, s_0_170, s_0_171, s_0_173, s_0_176, s_0_177, s_0_178, s_0_181, s_0_182, s_0_183, s_0_186, s_0_187, s_0_188, s_0_191, s_0_192, s_0_193, s_0_196, s_0_197, s_0_203, n_0_1, n_0_7, n_0_18, n_0_29, n_0_44, n_0_59, n_0_74, n_0_89, n_0_104, n_0_115, n_0_130, n_0_143, n_0_149, n_0_160, true_and, and_true, sc0, sc1, sc2, sc3, sc4, Option.toList, List.cons_append, List.nil_append, clr, ne_eq, not_false_eq_true, not_true_eq_false, false_and, and_false, true_or, or_true, or_false, false_or, forall_const, Nat.reduceEqDiff, List.length_nil, List.length_cons, Nat.zero_le, Nat.reduceAdd, Nat.reduceLeDiff, false_implies, true_implies, Int.reduceEq, Int.reduceNe, Int.reduceLT, Int.reduceLE, Int.reduceNeg, Int.reduceToNat, Int.toNat_natCast, Nat.reduceLT, and_self, Decidable.not_not, Nat.reduceSub, Nat.sub_self, List.length_append, List.append_assoc, kE, kL, ne180, hPF, tE, ← hMF, y15, y16, y17, y18, g12, ne175]
  refine s_0_200 (L := LC) (Nat.le_of_ble_eq_true rfl) kC_175 hE ?_
  simp only [s_0_0, s_0_4, s_0_5, s_0_9, s_0_12, s_0_13, s_0_14, s_0_17, s_0_21I, s_0_21, s_0_25, s_0_28, s_0_32I, s_0_32, s_0_33, s_0_34, s_0_40, s_0_43, s_0_47I, s_0_47, s_0_48, s_0_49, s_0_55, s_0_58, s_0_62I, s_0_62, s_0_63, s_0_64, s_0_70, s_0_73, s_0_77I, s_0_77, s_0_78, s_0_79, s_0_85, s_0_88, s_0_92I, s_0_92, s_0_93, s_0_94, s_0_100, s_0_103, s_0_107I, s_0_107, s_0_111, s_0_114, s_0_118I, s_0_118, s_0_119, s_0_120, s_0_126, s_0_129, s_0_133I, s_0_133, s_0_137, s_0_140, s_0_141, s_0_145, s_0_148, s_0_152I, s_0_152, s_0_156, s_0_159, s_0_163I, s_0_163, s_0_167, s_0_170, s_0_171, s_0_173, s_0_176, s_0_177, s_0_178, s_0_181, s_0_182, s_0_183, s_0_186, s_0_187, s_0_188, s_0_191, s_0_192, s_0_193, s_0_196, s_0_197, s_0_203, n_0_1, n_0_7, n_0_18, n_0_29, n_0_44, n_0_59, n_0_74, n_0_89, n_0_104, n_0_115, n_0_130, n_0_143, n_0_149, n_0_160, true_and, and_true, sc0, sc1, sc2, sc3, sc4, Option.toList, List.cons_append, List.nil_append, clr, ne_eq, not_false_eq_true, not_true_eq_false, false_and, and_false, true_or, or_true, or_false, false_or, forall_const, Nat.reduceEqDiff, List.length_nil, List.length_cons, Nat.zero_le, Nat.reduceAdd, Nat.reduceLeDiff, false_implies, true_implies, Int.reduceEq, Int.reduceNe, Int.reduceLT, Int.reduceLE, Int.reduceNeg, Int.reduceToNat, Int.toNat_natCast, Nat.reduceLT, and_self, Decidable.not_not, Nat.reduceSub, Nat.sub_self, List.length_append, List.append_assoc]
  exact hQ _ _ ⟨rfl, by rw [← hMF]; exact e1, e2⟩
