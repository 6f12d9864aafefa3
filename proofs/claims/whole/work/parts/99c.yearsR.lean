/-! years: the reference; alike -/
section
variable {N : MM} {rd ru t r c z n : Nat} {A B : Nat → Int} {V : GV} {u : Int}
theorem r_years_no {s k : Int} (hk : ¬ (1 ≤ k ∧ k ≤ 40)) : Ct 2 264 [pR 1, pI s, pI k] LR (PR rd ru) N (some (pI (-1))) (PR rd ru) (uM N 1 10 0) := by
  refine Ct_r [some (pR 1), some (pI s), some (pI k), none, none, none, none] (Nat.le_of_ble_eq_true rfl) rfl (fun d hd Q X hq => ?_)
  have hi := r_in (L := LR) (P := PR rd ru) (M := uM N 1 10 0) (v := k) (lo := 1) (hi := 40)
  simp only [s_264_0, s_264_1, s_264_2, s_264_5, s_264_6, s_264_7, s_264_12, s_264_15, s_264_16, s_264_17, s_264_18, s_264_19, s_264_22, s_264_23, s_264_24, s_264_25, s_264_26, s_264_29, s_264_30, s_264_33, s_264_34, s_264_37, s_264_41, s_264_42, s_264_44, s_264_46, s_264_47, s_264_50, s_264_51, s_264_55, s_264_57, s_264_59, s_264_60, s_264_63, s_264_64, s_264_65, s_264_66, s_264_72, s_264_73, s_264_74, s_264_76, s_264_77, s_264_80, s_264_81, s_264_88, s_264_90, s_264_91, s_264_92, s_264_95, s_264_100, s_264_103, s_264_104, s_264_107, s_264_109, s_264_111, s_264_112, s_264_113, s_264_114, s_264_117, s_264_119, s_264_121, s_264_122, s_264_123, s_264_124, s_264_125, s_264_127, s_264_128, s_264_131, s_264_132, s_264_135, s_264_138, s_264_139, s_264_140, s_264_146, s_264_148, s_264_149, s_264_152, s_264_154, s_264_156, s_264_157, s_264_158, s_264_159, s_264_160, s_264_161, s_264_162, s_264_166, s_264_167, s_264_168, s_264_169, s_264_170, s_264_173, s_264_176, s_264_177, s_264_178, s_264_181, s_264_182, s_264_183, s_264_186, s_264_190, s_264_191, s_264_192, s_264_193, s_264_199, s_264_203, s_264_204, true_and, and_true, sc0, sc1, sc2, sc3, sc4, Option.toList, List.cons_append, List.nil_append, clr, ne_eq, not_false_eq_true, not_true_eq_false, false_and, and_false, true_or, or_true, or_false, false_or, forall_const, Nat.reduceEqDiff, List.length_nil, List.length_cons, Nat.zero_le, Nat.reduceAdd, Nat.reduceLeDiff, false_implies, true_implies, Int.reduceEq, Int.reduceNe, Int.reduceLT, Int.reduceLE, Int.reduceNeg, Int.reduceToNat, Int.toNat_natCast, Nat.reduceLT, and_self, Decidable.not_not, kR_1, kR_2, kR_3, kR_4, kR_5, kR_6, kR_7, kR_8, kR_9, kR_10, kR_11, kR_12, kR_13, kR_14, kR_15, kR_16, kR_17, kR_18, kR_19, kR_20, kR_21, kR_22, kR_23, pR_0, pR_5, pR_6, pR_8, pR_11, pR_16, pR_17, pR_18, pR_21, pR_22, pR_23, pR_24, pR_26, pR_28, pR_29, pR_30, pR_33, pR_34, pR_35, pR_38, pR_41, pR_42, pR_43]
  refine s_264_9 (Nat.le_of_ble_eq_true rfl) (hi d (by omega)) ?_
  rw [if_neg hk]
  simp only [s_264_0, s_264_1, s_264_2, s_264_5, s_264_6, s_264_7, s_264_12, s_264_15, s_264_16, s_264_17, s_264_18, s_264_19, s_264_22, s_264_23, s_264_24, s_264_25, s_264_26, s_264_29, s_264_30, s_264_33, s_264_34, s_264_37, s_264_41, s_264_42, s_264_44, s_264_46, s_264_47, s_264_50, s_264_51, s_264_55, s_264_57, s_264_59, s_264_60, s_264_63, s_264_64, s_264_65, s_264_66, s_264_72, s_264_73, s_264_74, s_264_76, s_264_77, s_264_80, s_264_81, s_264_88, s_264_90, s_264_91, s_264_92, s_264_95, s_264_100, s_264_103, s_264_104, s_264_107, s_264_109, s_264_111, s_264_112, s_264_113, s_264_114, s_264_117, s_264_119, s_264_121, s_264_122, s_264_123, s_264_124, s_264_125, s_264_127, s_264_128, s_264_131, s_264_132, s_264_135, s_264_138, s_264_139, s_264_140, s_264_146, s_264_148, s_264_149, s_264_152, s_264_154, s_264_156, s_264_157, s_264_158, s_264_159, s_264_160, s_264_161, s_264_162, s_264_166, s_264_167, s_264_168, s_264_169, s_264_170, s_264_173, s_264_176, s_264_177, s_264_178, s_264_181, s_264_182, s_264_183, s_264_186, s_264_190, s_264_191, s_264_192, s_264_193, s_264_199, s_264_203, s_264_204, true_and, and_true, sc0, sc1, sc2, sc3, sc4, Option.toList, List.cons_append, List.nil_append, clr, ne_eq, not_false_eq_true, not_true_eq_false, false_and, and_false, true_or, or_true, or_false, false_or, forall_const, Nat.reduceEqDiff, List.length_nil, List.length_cons, Nat.zero_le, Nat.reduceAdd, Nat.reduceLeDiff, false_implies, true_implies, Int.reduceEq, Int.reduceNe, Int.reduceLT, Int.reduceLE, Int.reduceNeg, Int.reduceToNat, Int.toNat_natCast, Nat.reduceLT, and_self, Decidable.not_not, kR_1, kR_2, kR_3, kR_4, kR_5, kR_6, kR_7, kR_8, kR_9, kR_10, kR_11, kR_12, kR_13, kR_14, kR_15, kR_16, kR_17, kR_18, kR_19, kR_20, kR_21, kR_22, kR_23, pR_0, pR_5, pR_6, pR_8, pR_11, pR_16, pR_17, pR_18, pR_21, pR_22, pR_23, pR_24, pR_26, pR_28, pR_29, pR_30, pR_33, pR_34, pR_35, pR_38, pR_41, pR_42, pR_43]
  exact hq
theorem r_draw' {k s : Int} {M : MM} (hk : 0 < k) (hs : M 1 39 = s) : Ct 1 265 [pR 1, pI k] LR (PR rd ru) M (some (pI (dwV (dwN s) k))) (PR rd ru) (uM M 1 39 (dwN s)) := by
  have := r_draw (rd := rd) (ru := ru) (M := M) (n := k) (by omega)
  rw [hs] at this
  exact this
theorem r_nightY {M : MM} {A1 : Nat → Int} (h : WdR M ru r c z n A B V u) (hA : ArR M 15 A1) (hV : SnV A1 B z n) : Cw 184 205 [pR 1, pR 15] LR (PR rd ru) M (fun v P' M' => (∃ rd', P' = PR rd' ru) ∧ v = some (pI (cnt (fun g => decide (hpS c z V A1 B g)) n : Int)) ∧ ArR M' 15 (ntA c z n V B u A1) ∧ Fr SQl TQl M M' ∧ M' 1 10 = M 1 10 ∧ M' 1 31 = w32 (M 1 31 + ((n - cnt (fun g => decide (hpS c z V A1 B g)) n : Nat) : Int)) ∧ M' 1 39 = M 1 39) := by
  refine Cw_imp (r_goNight h.1 (Or.inr (Or.inr rfl)) hA hV h.2.2.2.1) (fun v P' M' hp => ?_)
  obtain ⟨h1, h2, h3, h4, h5, _⟩ := hp
  obtain ⟨f1, f2, f3, f4⟩ := Fr_n h3
  exact ⟨h1, h2, h4, f1, f4, h5, h3.1 39 (by decide)⟩
theorem r_years {s : Int} {k : Nat} (h : WdR N ru r c z n A B V u) (hk : 1 ≤ k ∧ k ≤ 40) : Cw 187 264 [pR 1, pI s, pI (k : Int)] LR (PR rd ru) N (QRt ru N (pI ((yrI c z n V B u s A k).2.2.1 : Int)) (some [((yrI c z n V B u s A k).2.2.2 : Int), (cnt (lkB (yrI c z n V B u s A k).2.1) z : Int)]) 0) := by
  refine Cw_k [some (pR 1), some (pI s), some (pI (k : Int)), none, none, none, none] (Nat.le_of_ble_eq_true rfl) rfl (fun d hd Q X hQ => ?_)
  obtain ⟨hW, hF0, h10, h9, h5⟩ := WdR_0 h
  generalize hM0 : uM N 1 10 0 = M0 at hW hF0 h10 h9 h5
  have hz := EnR_z hW.1
  have hzr : r * c = z := hW.1.2.1.symm
  have hn6 := hW.2.2.1.1
  have hSO : SnO B z n A := ⟨hW.2.2.1, hW.2.2.2.2.2.2⟩
  have hin := r_in (L := LR) (P := PR rd ru) (M := M0) (v := (k : Int)) (lo := 1) (hi := 40)
  have c1 : (1 : Int) ≤ (k : Int) ∧ (k : Int) ≤ 40 := by omega
  rw [if_pos c1] at hin
  generalize hM1 : uM (uM M0 1 39 s) 1 31 0 = M1
  have hF1 : Fr SQl TQl N M1 := by rw [← hM1]; exact Fr_1 (Fr_1 hF0 (by decide)) (by decide)
  have hW1 : WdR M1 ru r c z n A B V u := WdR_fr h hF1
  have f10 : M1 1 10 = 0 := by rw [← hM1]; simp [uM_at, h10]
  obtain ⟨l1, l2, l3, l4⟩ := lay_15 hW1
  generalize hM2 : cM M1 2 15 0 0 133 = M2 at l1 l2 l3 l4
  have i39 : M2 1 39 = s := by rw [l3, ← hM1]; simp [uM_at]
  have i31 : M2 1 31 = 0 := by rw [l3, ← hM1]; simp [uM_at]
  have i10 : M2 1 10 = 0 := by rw [l3]; exact f10
  simp only [s_264_0, s_264_1, s_264_2, s_264_5, s_264_6, s_264_7, s_264_12, s_264_15, s_264_16, s_264_17, s_264_18, s_264_19, s_264_22, s_264_23, s_264_24, s_264_25, s_264_26, s_264_29, s_264_30, s_264_33, s_264_34, s_264_37, s_264_41, s_264_42, s_264_46, s_264_47, s_264_50, s_264_51, s_264_55, s_264_57, s_264_59, s_264_60, s_264_63, s_264_64, s_264_65, s_264_66, s_264_72, s_264_73, s_264_74, s_264_76, s_264_77, s_264_80, s_264_81, s_264_88, s_264_90, s_264_91, s_264_92, s_264_95, s_264_100, s_264_103, s_264_104, s_264_107, s_264_109, s_264_111, s_264_112, s_264_113, s_264_114, s_264_117, s_264_119, s_264_121, s_264_122, s_264_123, s_264_124, s_264_125, s_264_127, s_264_128, s_264_131, s_264_132, s_264_135, s_264_138, s_264_139, s_264_140, s_264_146, s_264_148, s_264_149, s_264_152, s_264_154, s_264_156, s_264_157, s_264_158, s_264_159, s_264_160, s_264_161, s_264_162, s_264_166, s_264_167, s_264_168, s_264_169, s_264_170, s_264_173, s_264_176, s_264_177, s_264_178, s_264_181, s_264_182, s_264_183, s_264_186, s_264_190, s_264_191, s_264_192, s_264_193, s_264_199, s_264_203, s_264_204, true_and, and_true, sc0, sc1, sc2, sc3, sc4, Option.toList, List.cons_append, List.nil_append, clr, ne_eq, not_false_eq_true, not_true_eq_false, false_and, and_false, true_or, or_true, or_false, false_or, forall_const, Nat.reduceEqDiff, List.length_nil, List.length_cons, Nat.zero_le, Nat.reduceAdd, Nat.reduceLeDiff, false_implies, true_implies, Int.reduceEq, Int.reduceNe, Int.reduceLT, Int.reduceLE, Int.reduceNeg, Int.reduceToNat, Int.toNat_natCast, Nat.reduceLT, and_self, Decidable.not_not, kR_1, kR_2, kR_3, kR_4, kR_5, kR_6, kR_7, kR_8, kR_9, kR_10, kR_11, kR_12, kR_13, kR_14, kR_15, kR_16, kR_17, kR_18, kR_19, kR_20, kR_21, kR_22, kR_23, pR_0, pR_5, pR_6, pR_8, pR_11, pR_16, pR_17, pR_18, pR_21, pR_22, pR_23, pR_24, pR_26, pR_28, pR_29, pR_30, pR_33, pR_34, pR_35, pR_38, pR_41, pR_42, pR_43, hM0]
  refine s_264_9 (Nat.le_of_ble_eq_true rfl) (hin d (by omega)) ?_
  simp only [s_264_0, s_264_1, s_264_2, s_264_5, s_264_6, s_264_7, s_264_12, s_264_15, s_264_16, s_264_17, s_264_18, s_264_19, s_264_22, s_264_23, s_264_24, s_264_25, s_264_26, s_264_29, s_264_30, s_264_33, s_264_34, s_264_37, s_264_41, s_264_42, s_264_46, s_264_47, s_264_50, s_264_51, s_264_55, s_264_57, s_264_59, s_264_60, s_264_63, s_264_64, s_264_65, s_264_66, s_264_72, s_264_73, s_264_74, s_264_76, s_264_77, s_264_80, s_264_81, s_264_88, s_264_90, s_264_91, s_264_92, s_264_95, s_264_100, s_264_103, s_264_104, s_264_107, s_264_109, s_264_111, s_264_112, s_264_113, s_264_114, s_264_117, s_264_119, s_264_121, s_264_122, s_264_123, s_264_124, s_264_125, s_264_127, s_264_128, s_264_131, s_264_132, s_264_135, s_264_138, s_264_139, s_264_140, s_264_146, s_264_148, s_264_149, s_264_152, s_264_154, s_264_156, s_264_157, s_264_158, s_264_159, s_264_160, s_264_161, s_264_162, s_264_166, s_264_167, s_264_168, s_264_169, s_264_170, s_264_173, s_264_176, s_264_177, s_264_178, s_264_181, s_264_182, s_264_183, s_264_186, s_264_190, s_264_191, s_264_192, s_264_193, s_264_199, s_264_203, s_264_204, true_and, and_true, sc0, sc1, sc2, sc3, sc4, Option.toList, List.cons_append, List.nil_append, clr, ne_eq, not_false_eq_true, not_true_eq_false, false_and, and_false, true_or, or_true, or_false, false_or, forall_const, Nat.reduceEqDiff, List.length_nil, List.length_cons, Nat.zero_le, Nat.reduceAdd, Nat.reduceLeDiff, false_implies, true_implies, Int.reduceEq, Int.reduceNe, Int.reduceLT, Int.reduceLE, Int.reduceNeg, Int.reduceToNat, Int.toNat_natCast, Nat.reduceLT, and_self, Decidable.not_not, kR_1, kR_2, kR_3, kR_4, kR_5, kR_6, kR_7, kR_8, kR_9, kR_10, kR_11, kR_12, kR_13, kR_14, kR_15, kR_16, kR_17, kR_18, kR_19, kR_20, kR_21, kR_22, kR_23, pR_0, pR_5, pR_6, pR_8, pR_11, pR_16, pR_17, pR_18, pR_21, pR_22, pR_23, pR_24, pR_26, pR_28, pR_29, pR_30, pR_33, pR_34, pR_35, pR_38, pR_41, pR_42, pR_43, hM1]
  refine s_264_38 (Nat.le_of_ble_eq_true rfl) (r_lay (y := 15) (k := 0) (m := 133) kR_2 kR_15 (by decide) (by decide) (by decide) d (by omega)) ?_
  rw [hM2]
  simp only [s_264_0, s_264_1, s_264_2, s_264_5, s_264_6, s_264_7, s_264_12, s_264_15, s_264_16, s_264_17, s_264_18, s_264_19, s_264_22, s_264_23, s_264_24, s_264_25, s_264_26, s_264_29, s_264_30, s_264_33, s_264_34, s_264_37, s_264_41, s_264_42, s_264_46, s_264_47, s_264_50, s_264_51, s_264_55, s_264_57, s_264_59, s_264_60, s_264_63, s_264_64, s_264_65, s_264_66, s_264_72, s_264_73, s_264_74, s_264_76, s_264_77, s_264_80, s_264_81, s_264_88, s_264_90, s_264_91, s_264_92, s_264_95, s_264_100, s_264_103, s_264_104, s_264_107, s_264_109, s_264_111, s_264_112, s_264_113, s_264_114, s_264_117, s_264_119, s_264_121, s_264_122, s_264_123, s_264_124, s_264_125, s_264_127, s_264_128, s_264_131, s_264_132, s_264_135, s_264_138, s_264_139, s_264_140, s_264_146, s_264_148, s_264_149, s_264_152, s_264_154, s_264_156, s_264_157, s_264_158, s_264_159, s_264_160, s_264_161, s_264_162, s_264_166, s_264_167, s_264_168, s_264_169, s_264_170, s_264_173, s_264_176, s_264_177, s_264_178, s_264_181, s_264_182, s_264_183, s_264_186, s_264_190, s_264_191, s_264_192, s_264_193, s_264_199, s_264_203, s_264_204, true_and, and_true, sc0, sc1, sc2, sc3, sc4, Option.toList, List.cons_append, List.nil_append, clr, ne_eq, not_false_eq_true, not_true_eq_false, false_and, and_false, true_or, or_true, or_false, false_or, forall_const, Nat.reduceEqDiff, List.length_nil, List.length_cons, Nat.zero_le, Nat.reduceAdd, Nat.reduceLeDiff, false_implies, true_implies, Int.reduceEq, Int.reduceNe, Int.reduceLT, Int.reduceLE, Int.reduceNeg, Int.reduceToNat, Int.toNat_natCast, Nat.reduceLT, and_self, Decidable.not_not, kR_1, kR_2, kR_3, kR_4, kR_5, kR_6, kR_7, kR_8, kR_9, kR_10, kR_11, kR_12, kR_13, kR_14, kR_15, kR_16, kR_17, kR_18, kR_19, kR_20, kR_21, kR_22, kR_23, pR_0, pR_5, pR_6, pR_8, pR_11, pR_16, pR_17, pR_18, pR_21, pR_22, pR_23, pR_24, pR_26, pR_28, pR_29, pR_30, pR_33, pR_34, pR_35, pR_38, pR_41, pR_42, pR_43]
  have main : ∀ i, i ≤ k → ∀ (rd1 : Nat) (K : MM) (l5 l6 : Option PV), K 1 39 = (yrI c z n V B u s A i).1 → ArR K 15 (yrI c z n V B u s A i).2.1 → K 1 31 = ((yrI c z n V B u s A i).2.2.2 : Int) → K 1 10 = 0 → Fr SQl TQl N K → wpB (Ev d) 264 Q X 44 [some (pR 1), some (pI s), some (pI (k : Int)), some (pI ((yrI c z n V B u s A i).2.2.1 : Int)), some (pI (i : Int)), l5, l6] [] (kz LR) (PR rd1 ru) K := by
    intro i hi
    induction hj : k - i generalizing i with
    | zero =>
      intro rd1 K l5 l6 k1 k2 k3 k4 k5
      have hik : i = k := by omega
      subst hik
      have hOk := SnO_yrI (c := c) (z := z) (n := n) (V := V) (B := B) (u := u) (s := s) hSO hz i
      generalize hA : yrI c z n V B u s A i = y at k1 k2 k3 hQ hOk
      have q31 : uM K 1 9 0 1 31 = (y.2.2.2 : Int) := by simp [uM_at, k3]
      generalize hJ1 : tdR (uM K 1 9 0) [] (y.2.2.2 : Int) = J1
      have hFJ : Fr SQl TQl N J1 := by rw [← hJ1]; exact Fr_td (Fr_9 k5)
      have hWJ := WdR_fr h hFJ
      have hA2 : ArR J1 15 y.2.1 := fun j hj => by rw [← hJ1]; unfold tdR; rw [uM_ne (by decide), uM_ne (by decide), uM_ne (by decide)]; exact k2 j hj
      have hws : wsum (fun f => J1 15 (72 + f)) z = (cnt (lkB y.2.1) z : Int) := by
        rw [← wsum_lk hz.2 (fun f hf => (hOk.1.2.1 f hf).2.2)]
        exact wsum_cg (fun f hf => hA2 (72 + f) (by omega))
      have hlk := r_locks (rd := rd1) (ru := ru) (x := 15) hWJ.1.1 (Or.inr (Or.inr rfl))
      rw [hzr, hws] at hlk
      have had := r_add1 (M := K) (rd := rd1) (ru := ru) (x := (y.2.2.2 : Int)) (y := (cnt (lkB y.2.1) z : Int))
      rw [hJ1] at had
      rw [s_264_44]
      simp only [s_264_0, s_264_1, s_264_2, s_264_5, s_264_6, s_264_7, s_264_12, s_264_15, s_264_16, s_264_17, s_264_18, s_264_19, s_264_22, s_264_23, s_264_24, s_264_25, s_264_26, s_264_29, s_264_30, s_264_33, s_264_34, s_264_37, s_264_41, s_264_42, s_264_46, s_264_47, s_264_50, s_264_51, s_264_55, s_264_57, s_264_59, s_264_60, s_264_63, s_264_64, s_264_65, s_264_66, s_264_72, s_264_73, s_264_74, s_264_76, s_264_77, s_264_80, s_264_81, s_264_88, s_264_90, s_264_91, s_264_92, s_264_95, s_264_100, s_264_103, s_264_104, s_264_107, s_264_109, s_264_111, s_264_112, s_264_113, s_264_114, s_264_117, s_264_119, s_264_121, s_264_122, s_264_123, s_264_124, s_264_125, s_264_127, s_264_128, s_264_131, s_264_132, s_264_135, s_264_138, s_264_139, s_264_140, s_264_146, s_264_148, s_264_149, s_264_152, s_264_154, s_264_156, s_264_157, s_264_158, s_264_159, s_264_160, s_264_161, s_264_162, s_264_166, s_264_167, s_264_168, s_264_169, s_264_170, s_264_173, s_264_176, s_264_177, s_264_178, s_264_181, s_264_182, s_264_183, s_264_186, s_264_190, s_264_191, s_264_192, s_264_193, s_264_199, s_264_203, s_264_204, true_and, and_true, sc0, sc1, sc2, sc3, sc4, Option.toList, List.cons_append, List.nil_append, clr, ne_eq, not_false_eq_true, not_true_eq_false, false_and, and_false, true_or, or_true, or_false, false_or, forall_const, Nat.reduceEqDiff, List.length_nil, List.length_cons, Nat.zero_le, Nat.reduceAdd, Nat.reduceLeDiff, false_implies, true_implies, Int.reduceEq, Int.reduceNe, Int.reduceLT, Int.reduceLE, Int.reduceNeg, Int.reduceToNat, Int.toNat_natCast, Nat.reduceLT, and_self, Decidable.not_not, kR_1, kR_2, kR_3, kR_4, kR_5, kR_6, kR_7, kR_8, kR_9, kR_10, kR_11, kR_12, kR_13, kR_14, kR_15, kR_16, kR_17, kR_18, kR_19, kR_20, kR_21, kR_22, kR_23, pR_0, pR_5, pR_6, pR_8, pR_11, pR_16, pR_17, pR_18, pR_21, pR_22, pR_23, pR_24, pR_26, pR_28, pR_29, pR_30, pR_33, pR_34, pR_35, pR_38, pR_41, pR_42, pR_43, Int.le_refl, q31]
      refine s_264_187 (Nat.le_of_ble_eq_true rfl) kR_1 (r_add0 d (by omega)) ?_
      rw [hJ1]
      simp only [s_264_0, s_264_1, s_264_2, s_264_5, s_264_6, s_264_7, s_264_12, s_264_15, s_264_16, s_264_17, s_264_18, s_264_19, s_264_22, s_264_23, s_264_24, s_264_25, s_264_26, s_264_29, s_264_30, s_264_33, s_264_34, s_264_37, s_264_41, s_264_42, s_264_46, s_264_47, s_264_50, s_264_51, s_264_55, s_264_57, s_264_59, s_264_60, s_264_63, s_264_64, s_264_65, s_264_66, s_264_72, s_264_73, s_264_74, s_264_76, s_264_77, s_264_80, s_264_81, s_264_88, s_264_90, s_264_91, s_264_92, s_264_95, s_264_100, s_264_103, s_264_104, s_264_107, s_264_109, s_264_111, s_264_112, s_264_113, s_264_114, s_264_117, s_264_119, s_264_121, s_264_122, s_264_123, s_264_124, s_264_125, s_264_127, s_264_128, s_264_131, s_264_132, s_264_135, s_264_138, s_264_139, s_264_140, s_264_146, s_264_148, s_264_149, s_264_152, s_264_154, s_264_156, s_264_157, s_264_158, s_264_159, s_264_160, s_264_161, s_264_162, s_264_166, s_264_167, s_264_168, s_264_169, s_264_170, s_264_173, s_264_176, s_264_177, s_264_178, s_264_181, s_264_182, s_264_183, s_264_186, s_264_190, s_264_191, s_264_192, s_264_193, s_264_199, s_264_203, s_264_204, true_and, and_true, sc0, sc1, sc2, sc3, sc4, Option.toList, List.cons_append, List.nil_append, clr, ne_eq, not_false_eq_true, not_true_eq_false, false_and, and_false, true_or, or_true, or_false, false_or, forall_const, Nat.reduceEqDiff, List.length_nil, List.length_cons, Nat.zero_le, Nat.reduceAdd, Nat.reduceLeDiff, false_implies, true_implies, Int.reduceEq, Int.reduceNe, Int.reduceLT, Int.reduceLE, Int.reduceNeg, Int.reduceToNat, Int.toNat_natCast, Nat.reduceLT, and_self, Decidable.not_not, kR_1, kR_2, kR_3, kR_4, kR_5, kR_6, kR_7, kR_8, kR_9, kR_10, kR_11, kR_12, kR_13, kR_14, kR_15, kR_16, kR_17, kR_18, kR_19, kR_20, kR_21, kR_22, kR_23, pR_0, pR_5, pR_6, pR_8, pR_11, pR_16, pR_17, pR_18, pR_21, pR_22, pR_23, pR_24, pR_26, pR_28, pR_29, pR_30, pR_33, pR_34, pR_35, pR_38, pR_41, pR_42, pR_43]
      refine s_264_196 (Nat.le_of_ble_eq_true rfl) kR_1 (hlk d (by omega)) ?_
      simp only [s_264_0, s_264_1, s_264_2, s_264_5, s_264_6, s_264_7, s_264_12, s_264_15, s_264_16, s_264_17, s_264_18, s_264_19, s_264_22, s_264_23, s_264_24, s_264_25, s_264_26, s_264_29, s_264_30, s_264_33, s_264_34, s_264_37, s_264_41, s_264_42, s_264_46, s_264_47, s_264_50, s_264_51, s_264_55, s_264_57, s_264_59, s_264_60, s_264_63, s_264_64, s_264_65, s_264_66, s_264_72, s_264_73, s_264_74, s_264_76, s_264_77, s_264_80, s_264_81, s_264_88, s_264_90, s_264_91, s_264_92, s_264_95, s_264_100, s_264_103, s_264_104, s_264_107, s_264_109, s_264_111, s_264_112, s_264_113, s_264_114, s_264_117, s_264_119, s_264_121, s_264_122, s_264_123, s_264_124, s_264_125, s_264_127, s_264_128, s_264_131, s_264_132, s_264_135, s_264_138, s_264_139, s_264_140, s_264_146, s_264_148, s_264_149, s_264_152, s_264_154, s_264_156, s_264_157, s_264_158, s_264_159, s_264_160, s_264_161, s_264_162, s_264_166, s_264_167, s_264_168, s_264_169, s_264_170, s_264_173, s_264_176, s_264_177, s_264_178, s_264_181, s_264_182, s_264_183, s_264_186, s_264_190, s_264_191, s_264_192, s_264_193, s_264_199, s_264_203, s_264_204, true_and, and_true, sc0, sc1, sc2, sc3, sc4, Option.toList, List.cons_append, List.nil_append, clr, ne_eq, not_false_eq_true, not_true_eq_false, false_and, and_false, true_or, or_true, or_false, false_or, forall_const, Nat.reduceEqDiff, List.length_nil, List.length_cons, Nat.zero_le, Nat.reduceAdd, Nat.reduceLeDiff, false_implies, true_implies, Int.reduceEq, Int.reduceNe, Int.reduceLT, Int.reduceLE, Int.reduceNeg, Int.reduceToNat, Int.toNat_natCast, Nat.reduceLT, and_self, Decidable.not_not, kR_1, kR_2, kR_3, kR_4, kR_5, kR_6, kR_7, kR_8, kR_9, kR_10, kR_11, kR_12, kR_13, kR_14, kR_15, kR_16, kR_17, kR_18, kR_19, kR_20, kR_21, kR_22, kR_23, pR_0, pR_5, pR_6, pR_8, pR_11, pR_16, pR_17, pR_18, pR_21, pR_22, pR_23, pR_24, pR_26, pR_28, pR_29, pR_30, pR_33, pR_34, pR_35, pR_38, pR_41, pR_42, pR_43]
      refine s_264_200 (Nat.le_of_ble_eq_true rfl) kR_1 (had d (by omega)) ?_
      simp only [s_264_0, s_264_1, s_264_2, s_264_5, s_264_6, s_264_7, s_264_12, s_264_15, s_264_16, s_264_17, s_264_18, s_264_19, s_264_22, s_264_23, s_264_24, s_264_25, s_264_26, s_264_29, s_264_30, s_264_33, s_264_34, s_264_37, s_264_41, s_264_42, s_264_46, s_264_47, s_264_50, s_264_51, s_264_55, s_264_57, s_264_59, s_264_60, s_264_63, s_264_64, s_264_65, s_264_66, s_264_72, s_264_73, s_264_74, s_264_76, s_264_77, s_264_80, s_264_81, s_264_88, s_264_90, s_264_91, s_264_92, s_264_95, s_264_100, s_264_103, s_264_104, s_264_107, s_264_109, s_264_111, s_264_112, s_264_113, s_264_114, s_264_117, s_264_119, s_264_121, s_264_122, s_264_123, s_264_124, s_264_125, s_264_127, s_264_128, s_264_131, s_264_132, s_264_135, s_264_138, s_264_139, s_264_140, s_264_146, s_264_148, s_264_149, s_264_152, s_264_154, s_264_156, s_264_157, s_264_158, s_264_159, s_264_160, s_264_161, s_264_162, s_264_166, s_264_167, s_264_168, s_264_169, s_264_170, s_264_173, s_264_176, s_264_177, s_264_178, s_264_181, s_264_182, s_264_183, s_264_186, s_264_190, s_264_191, s_264_192, s_264_193, s_264_199, s_264_203, s_264_204, true_and, and_true, sc0, sc1, sc2, sc3, sc4, Option.toList, List.cons_append, List.nil_append, clr, ne_eq, not_false_eq_true, not_true_eq_false, false_and, and_false, true_or, or_true, or_false, false_or, forall_const, Nat.reduceEqDiff, List.length_nil, List.length_cons, Nat.zero_le, Nat.reduceAdd, Nat.reduceLeDiff, false_implies, true_implies, Int.reduceEq, Int.reduceNe, Int.reduceLT, Int.reduceLE, Int.reduceNeg, Int.reduceToNat, Int.toNat_natCast, Nat.reduceLT, and_self, Decidable.not_not, kR_1, kR_2, kR_3, kR_4, kR_5, kR_6, kR_7, kR_8, kR_9, kR_10, kR_11, kR_12, kR_13, kR_14, kR_15, kR_16, kR_17, kR_18, kR_19, kR_20, kR_21, kR_22, kR_23, pR_0, pR_5, pR_6, pR_8, pR_11, pR_16, pR_17, pR_18, pR_21, pR_22, pR_23, pR_24, pR_26, pR_28, pR_29, pR_30, pR_33, pR_34, pR_35, pR_38, pR_41, pR_42, pR_43]
      refine hQ _ _ _ (QR_s (by rw [← hJ1] at hFJ ⊢; exact Fr_td hFJ) (by rw [tdR_10, ← hJ1, tdR_10, u9_10]; exact k4) (by rw [← hJ1]; exact ToR_2))
    | succ j ih =>
      intro rd1 K l5 l6 k1 k2 k3 k4 k5
      have hik : i < k := by omega
      have ih' := ih (i + 1) (by omega) (by omega)
      clear ih
      have hb := yrI_b (c := c) (z := z) (n := n) (V := V) (B := B) (u := u) (A := A) (s := s) hn6 i
      have hO := SnO_yrI (c := c) (z := z) (n := n) (V := V) (B := B) (u := u) (s := s) hSO hz i
      rw [show yrI c z n V B u s A (i + 1) = yrW c z n V B u (yrI c z n V B u s A i).1 (yrI c z n V B u s A i).2.1 (yrI c z n V B u s A i).2.2.1 (yrI c z n V B u s A i).2.2.2 from rfl] at ih'
      generalize yrI c z n V B u s A i = y at k1 k2 k3 hb hO ih' ⊢
      obtain ⟨s0, A1, cm, ms⟩ := y
      dsimp only at k1 k2 k3 hb hO ih' ⊢
      generalize hy : yrW c z n V B u s0 A1 cm ms = y2 at ih'
      unfold yrW at hy
      have e0 : ¬ (k : Int) ≤ (i : Int) := by omega
      have en := EqW_i (w32n (show i < 1000000 by omega))
      have hd1 := r_draw' (rd := rd1) (ru := ru) (k := 4) (by decide) k1
      generalize hs : dwN s0 = s1 at hy hd1
      generalize hK1 : uM K 1 39 s1 = K1 at hd1
      have f1 : Fr SQl TQl N K1 := by rw [← hK1]; exact Fr_1 k5 (by decide)
      have a1 : ArR K1 15 A1 := fun j hj => by rw [← hK1, uM_ne (by decide)]; exact k2 j hj
      have n31 : K1 1 31 = (ms : Int) := by rw [← hK1]; simp [uM_at, k3]
      have n10 : K1 1 10 = 0 := by rw [← hK1]; simp [uM_at, k4]
      have n39 : K1 1 39 = s1 := by rw [← hK1]; simp [uM_at]
      have hWK := WdR_fr h f1
      have v1 := dwV_b s1 4 (by decide)
      generalize hw : dwV s1 4 = w at hd1 v1 hy
      rw [s_264_44]
      simp only [s_264_0, s_264_1, s_264_2, s_264_5, s_264_6, s_264_7, s_264_12, s_264_15, s_264_16, s_264_17, s_264_18, s_264_19, s_264_22, s_264_23, s_264_24, s_264_25, s_264_26, s_264_29, s_264_30, s_264_33, s_264_34, s_264_37, s_264_41, s_264_42, s_264_46, s_264_47, s_264_50, s_264_51, s_264_55, s_264_57, s_264_59, s_264_60, s_264_63, s_264_64, s_264_65, s_264_66, s_264_72, s_264_73, s_264_74, s_264_76, s_264_77, s_264_80, s_264_81, s_264_88, s_264_90, s_264_91, s_264_92, s_264_95, s_264_100, s_264_103, s_264_104, s_264_107, s_264_109, s_264_111, s_264_112, s_264_113, s_264_114, s_264_117, s_264_119, s_264_121, s_264_122, s_264_123, s_264_124, s_264_125, s_264_127, s_264_128, s_264_131, s_264_132, s_264_135, s_264_138, s_264_139, s_264_140, s_264_146, s_264_148, s_264_149, s_264_152, s_264_154, s_264_156, s_264_157, s_264_158, s_264_159, s_264_160, s_264_161, s_264_162, s_264_166, s_264_167, s_264_168, s_264_169, s_264_170, s_264_173, s_264_176, s_264_177, s_264_178, s_264_181, s_264_182, s_264_183, s_264_186, s_264_190, s_264_191, s_264_192, s_264_193, s_264_199, s_264_203, s_264_204, true_and, and_true, sc0, sc1, sc2, sc3, sc4, Option.toList, List.cons_append, List.nil_append, clr, ne_eq, not_false_eq_true, not_true_eq_false, false_and, and_false, true_or, or_true, or_false, false_or, forall_const, Nat.reduceEqDiff, List.length_nil, List.length_cons, Nat.zero_le, Nat.reduceAdd, Nat.reduceLeDiff, false_implies, true_implies, Int.reduceEq, Int.reduceNe, Int.reduceLT, Int.reduceLE, Int.reduceNeg, Int.reduceToNat, Int.toNat_natCast, Nat.reduceLT, and_self, Decidable.not_not, kR_1, kR_2, kR_3, kR_4, kR_5, kR_6, kR_7, kR_8, kR_9, kR_10, kR_11, kR_12, kR_13, kR_14, kR_15, kR_16, kR_17, kR_18, kR_19, kR_20, kR_21, kR_22, kR_23, pR_0, pR_5, pR_6, pR_8, pR_11, pR_16, pR_17, pR_18, pR_21, pR_22, pR_23, pR_24, pR_26, pR_28, pR_29, pR_30, pR_33, pR_34, pR_35, pR_38, pR_41, pR_42, pR_43, e0]
      refine s_264_52 (Nat.le_of_ble_eq_true rfl) kR_1 (hd1 d (by omega)) ?_
      by_cases c1 : w < 2
      · rw [if_pos c1] at hy
        subst hy
        dsimp only at ih'
        have c2 : ¬ 2 ≤ w := by omega
        have c3 : ¬ w = 2 := by omega
        have c4 : ¬ w = 3 := by omega
        obtain ⟨v, P', J, hE, ⟨rd2, rfl⟩, rfl, p1, p2, p5, p6, p7⟩ := r_nightY (rd := rd1) hWK a1 hO.1 d (by omega)
        have b1 := cnt_le (fun g => decide (hpS c z V A1 B g)) n
        have cn := cnt_n (p := fun g => decide (hpS c z V A1 B g)) n
        have es := EqW_i (show w32 ((cm : Int) + (cnt (fun g => decide (hpS c z V A1 B g)) n : Int)) = ((cm + cnt (fun g => decide (hpS c z V A1 B g)) n : Nat) : Int) by rw [Int.natCast_add]; exact w32s (by omega))
        have x39 : J 1 39 = s1 := by rw [p7]; exact n39
        rw [n31] at p6
        simp only [s_264_0, s_264_1, s_264_2, s_264_5, s_264_6, s_264_7, s_264_12, s_264_15, s_264_16, s_264_17, s_264_18, s_264_19, s_264_22, s_264_23, s_264_24, s_264_25, s_264_26, s_264_29, s_264_30, s_264_33, s_264_34, s_264_37, s_264_41, s_264_42, s_264_46, s_264_47, s_264_50, s_264_51, s_264_55, s_264_57, s_264_59, s_264_60, s_264_63, s_264_64, s_264_65, s_264_66, s_264_72, s_264_73, s_264_74, s_264_76, s_264_77, s_264_80, s_264_81, s_264_88, s_264_90, s_264_91, s_264_92, s_264_95, s_264_100, s_264_103, s_264_104, s_264_107, s_264_109, s_264_111, s_264_112, s_264_113, s_264_114, s_264_117, s_264_119, s_264_121, s_264_122, s_264_123, s_264_124, s_264_125, s_264_127, s_264_128, s_264_131, s_264_132, s_264_135, s_264_138, s_264_139, s_264_140, s_264_146, s_264_148, s_264_149, s_264_152, s_264_154, s_264_156, s_264_157, s_264_158, s_264_159, s_264_160, s_264_161, s_264_162, s_264_166, s_264_167, s_264_168, s_264_169, s_264_170, s_264_173, s_264_176, s_264_177, s_264_178, s_264_181, s_264_182, s_264_183, s_264_186, s_264_190, s_264_191, s_264_192, s_264_193, s_264_199, s_264_203, s_264_204, true_and, and_true, sc0, sc1, sc2, sc3, sc4, Option.toList, List.cons_append, List.nil_append, clr, ne_eq, not_false_eq_true, not_true_eq_false, false_and, and_false, true_or, or_true, or_false, false_or, forall_const, Nat.reduceEqDiff, List.length_nil, List.length_cons, Nat.zero_le, Nat.reduceAdd, Nat.reduceLeDiff, false_implies, true_implies, Int.reduceEq, Int.reduceNe, Int.reduceLT, Int.reduceLE, Int.reduceNeg, Int.reduceToNat, Int.toNat_natCast, Nat.reduceLT, and_self, Decidable.not_not, kR_1, kR_2, kR_3, kR_4, kR_5, kR_6, kR_7, kR_8, kR_9, kR_10, kR_11, kR_12, kR_13, kR_14, kR_15, kR_16, kR_17, kR_18, kR_19, kR_20, kR_21, kR_22, kR_23, pR_0, pR_5, pR_6, pR_8, pR_11, pR_16, pR_17, pR_18, pR_21, pR_22, pR_23, pR_24, pR_26, pR_28, pR_29, pR_30, pR_33, pR_34, pR_35, pR_38, pR_41, pR_42, pR_43, c2]
        refine s_264_69 (Nat.le_of_ble_eq_true rfl) kR_1 hE ?_
        simp only [s_264_0, s_264_1, s_264_2, s_264_5, s_264_6, s_264_7, s_264_12, s_264_15, s_264_16, s_264_17, s_264_18, s_264_19, s_264_22, s_264_23, s_264_24, s_264_25, s_264_26, s_264_29, s_264_30, s_264_33, s_264_34, s_264_37, s_264_41, s_264_42, s_264_46, s_264_47, s_264_50, s_264_51, s_264_55, s_264_57, s_264_59, s_264_60, s_264_63, s_264_64, s_264_65, s_264_66, s_264_72, s_264_73, s_264_74, s_264_76, s_264_77, s_264_80, s_264_81, s_264_88, s_264_90, s_264_91, s_264_92, s_264_95, s_264_100, s_264_103, s_264_104, s_264_107, s_264_109, s_264_111, s_264_112, s_264_113, s_264_114, s_264_117, s_264_119, s_264_121, s_264_122, s_264_123, s_264_124, s_264_125, s_264_127, s_264_128, s_264_131, s_264_132, s_264_135, s_264_138, s_264_139, s_264_140, s_264_146, s_264_148, s_264_149, s_264_152, s_264_154, s_264_156, s_264_157, s_264_158, s_264_159, s_264_160, s_264_161, s_264_162, s_264_166, s_264_167, s_264_168, s_264_169, s_264_170, s_264_173, s_264_176, s_264_177, s_264_178, s_264_181, s_264_182, s_264_183, s_264_186, s_264_190, s_264_191, s_264_192, s_264_193, s_264_199, s_264_203, s_264_204, true_and, and_true, sc0, sc1, sc2, sc3, sc4, Option.toList, List.cons_append, List.nil_append, clr, ne_eq, not_false_eq_true, not_true_eq_false, false_and, and_false, true_or, or_true, or_false, false_or, forall_const, Nat.reduceEqDiff, List.length_nil, List.length_cons, Nat.zero_le, Nat.reduceAdd, Nat.reduceLeDiff, false_implies, true_implies, Int.reduceEq, Int.reduceNe, Int.reduceLT, Int.reduceLE, Int.reduceNeg, Int.reduceToNat, Int.toNat_natCast, Nat.reduceLT, and_self, Decidable.not_not, kR_1, kR_2, kR_3, kR_4, kR_5, kR_6, kR_7, kR_8, kR_9, kR_10, kR_11, kR_12, kR_13, kR_14, kR_15, kR_16, kR_17, kR_18, kR_19, kR_20, kR_21, kR_22, kR_23, pR_0, pR_5, pR_6, pR_8, pR_11, pR_16, pR_17, pR_18, pR_21, pR_22, pR_23, pR_24, pR_26, pR_28, pR_29, pR_30, pR_33, pR_34, pR_35, pR_38, pR_41, pR_42, pR_43, EqW_o es, c3, c4, EqW_o en]
        refine ih' rd2 J _ _ x39 p1 ?_ (by rw [p5]; exact n10) (Fr_trans f1 p2)
        rw [p6, w32s (by omega)]
        omega
      have c2 : 2 ≤ w := by omega
      rw [if_neg c1] at hy
      have hd2 := fun (k : Int) (hk : 0 < k) => r_draw' (rd := rd1) (ru := ru) (k := k) hk n39
      generalize hs2 : dwN s1 = s2 at hy hd2
      generalize hK2 : uM K1 1 39 s2 = K2 at hd2
      have f2 : Fr SQl TQl N K2 := by rw [← hK2]; exact Fr_1 f1 (by decide)
      have a2 : ArR K2 15 A1 := fun j hj => by rw [← hK2, uM_ne (by decide)]; exact a1 j hj
      have o31 : K2 1 31 = (ms : Int) := by rw [← hK2]; simp [uM_at, n31]
      have o10 : K2 1 10 = 0 := by rw [← hK2]; simp [uM_at, n10]
      have o39 : K2 1 39 = s2 := by rw [← hK2]; simp [uM_at]
      have hWK2 := WdR_fr h f2
      by_cases c3 : w = 2
      · rw [if_pos c3] at hy
        have c4 : ¬ w = 3 := by omega
        have c4' : ¬ (2 : Int) = 3 := by decide
        have hz0 : (0 : Int) < (z : Int) := by omega
        have v2 := dwV_b s2 (z : Int) hz0
        have hd3 := hd2 (z : Int) hz0
        obtain ⟨f, hf⟩ : ∃ f : Nat, dwV s2 (z : Int) = (f : Int) := ⟨(dwV s2 (z : Int)).toNat, by omega⟩
        rw [hf, Int.toNat_natCast] at hy
        rw [hf] at hd3 v2
        have hfz : f < z := by omega
        have hfl := r_fields (rd := rd1) (ru := ru) hWK.1.1
        rw [hzr] at hfl
        have hrf := r_refusesLock (rd := rd1) (ru := ru) (x := 15) (f := (f : Int)) hWK2.1.1 (Or.inr (Or.inr rfl))
        unfold rfL at hrf
        have hws : wsum (fun f => K2 15 (72 + f)) z = (cnt (lkB A1) z : Int) := by
          rw [← wsum_lk hz.2 (fun f hf => (hO.1.2.1 f hf).2.2)]
          exact wsum_cg (fun f hf => a2 (72 + f) (by omega))
        have h8 : cnt (lkB A1) z ≤ 8 := hO.2
        rw [hzr, if_neg (not_not_intro (show (0 : Int) ≤ (f : Int) ∧ (f : Int) < (z : Int) by omega)), Int.toNat_natCast, hws, a2 (72 + f) (by omega)] at hrf
        simp only [s_264_0, s_264_1, s_264_2, s_264_5, s_264_6, s_264_7, s_264_12, s_264_15, s_264_16, s_264_17, s_264_18, s_264_19, s_264_22, s_264_23, s_264_24, s_264_25, s_264_26, s_264_29, s_264_30, s_264_33, s_264_34, s_264_37, s_264_41, s_264_42, s_264_46, s_264_47, s_264_50, s_264_51, s_264_55, s_264_57, s_264_59, s_264_60, s_264_63, s_264_64, s_264_65, s_264_66, s_264_72, s_264_73, s_264_74, s_264_76, s_264_77, s_264_80, s_264_81, s_264_88, s_264_90, s_264_91, s_264_92, s_264_95, s_264_100, s_264_103, s_264_104, s_264_107, s_264_109, s_264_111, s_264_112, s_264_113, s_264_114, s_264_117, s_264_119, s_264_121, s_264_122, s_264_123, s_264_124, s_264_125, s_264_127, s_264_128, s_264_131, s_264_132, s_264_135, s_264_138, s_264_139, s_264_140, s_264_146, s_264_148, s_264_149, s_264_152, s_264_154, s_264_156, s_264_157, s_264_158, s_264_159, s_264_160, s_264_161, s_264_162, s_264_166, s_264_167, s_264_168, s_264_169, s_264_170, s_264_173, s_264_176, s_264_177, s_264_178, s_264_181, s_264_182, s_264_183, s_264_186, s_264_190, s_264_191, s_264_192, s_264_193, s_264_199, s_264_203, s_264_204, true_and, and_true, sc0, sc1, sc2, sc3, sc4, Option.toList, List.cons_append, List.nil_append, clr, ne_eq, not_false_eq_true, not_true_eq_false, false_and, and_false, true_or, or_true, or_false, false_or, forall_const, Nat.reduceEqDiff, List.length_nil, List.length_cons, Nat.zero_le, Nat.reduceAdd, Nat.reduceLeDiff, false_implies, true_implies, Int.reduceEq, Int.reduceNe, Int.reduceLT, Int.reduceLE, Int.reduceNeg, Int.reduceToNat, Int.toNat_natCast, Nat.reduceLT, and_self, Decidable.not_not, kR_1, kR_2, kR_3, kR_4, kR_5, kR_6, kR_7, kR_8, kR_9, kR_10, kR_11, kR_12, kR_13, kR_14, kR_15, kR_16, kR_17, kR_18, kR_19, kR_20, kR_21, kR_22, kR_23, pR_0, pR_5, pR_6, pR_8, pR_11, pR_16, pR_17, pR_18, pR_21, pR_22, pR_23, pR_24, pR_26, pR_28, pR_29, pR_30, pR_33, pR_34, pR_35, pR_38, pR_41, pR_42, pR_43, c2, c3]
        refine s_264_82 (Nat.le_of_ble_eq_true rfl) kR_1 (hfl d (by omega)) ?_
        simp only [s_264_0, s_264_1, s_264_2, s_264_5, s_264_6, s_264_7, s_264_12, s_264_15, s_264_16, s_264_17, s_264_18, s_264_19, s_264_22, s_264_23, s_264_24, s_264_25, s_264_26, s_264_29, s_264_30, s_264_33, s_264_34, s_264_37, s_264_41, s_264_42, s_264_46, s_264_47, s_264_50, s_264_51, s_264_55, s_264_57, s_264_59, s_264_60, s_264_63, s_264_64, s_264_65, s_264_66, s_264_72, s_264_73, s_264_74, s_264_76, s_264_77, s_264_80, s_264_81, s_264_88, s_264_90, s_264_91, s_264_92, s_264_95, s_264_100, s_264_103, s_264_104, s_264_107, s_264_109, s_264_111, s_264_112, s_264_113, s_264_114, s_264_117, s_264_119, s_264_121, s_264_122, s_264_123, s_264_124, s_264_125, s_264_127, s_264_128, s_264_131, s_264_132, s_264_135, s_264_138, s_264_139, s_264_140, s_264_146, s_264_148, s_264_149, s_264_152, s_264_154, s_264_156, s_264_157, s_264_158, s_264_159, s_264_160, s_264_161, s_264_162, s_264_166, s_264_167, s_264_168, s_264_169, s_264_170, s_264_173, s_264_176, s_264_177, s_264_178, s_264_181, s_264_182, s_264_183, s_264_186, s_264_190, s_264_191, s_264_192, s_264_193, s_264_199, s_264_203, s_264_204, true_and, and_true, sc0, sc1, sc2, sc3, sc4, Option.toList, List.cons_append, List.nil_append, clr, ne_eq, not_false_eq_true, not_true_eq_false, false_and, and_false, true_or, or_true, or_false, false_or, forall_const, Nat.reduceEqDiff, List.length_nil, List.length_cons, Nat.zero_le, Nat.reduceAdd, Nat.reduceLeDiff, false_implies, true_implies, Int.reduceEq, Int.reduceNe, Int.reduceLT, Int.reduceLE, Int.reduceNeg, Int.reduceToNat, Int.toNat_natCast, Nat.reduceLT, and_self, Decidable.not_not, kR_1, kR_2, kR_3, kR_4, kR_5, kR_6, kR_7, kR_8, kR_9, kR_10, kR_11, kR_12, kR_13, kR_14, kR_15, kR_16, kR_17, kR_18, kR_19, kR_20, kR_21, kR_22, kR_23, pR_0, pR_5, pR_6, pR_8, pR_11, pR_16, pR_17, pR_18, pR_21, pR_22, pR_23, pR_24, pR_26, pR_28, pR_29, pR_30, pR_33, pR_34, pR_35, pR_38, pR_41, pR_42, pR_43]
        refine s_264_85 (Nat.le_of_ble_eq_true rfl) kR_1 (hd3 d (by omega)) ?_
        simp only [s_264_0, s_264_1, s_264_2, s_264_5, s_264_6, s_264_7, s_264_12, s_264_15, s_264_16, s_264_17, s_264_18, s_264_19, s_264_22, s_264_23, s_264_24, s_264_25, s_264_26, s_264_29, s_264_30, s_264_33, s_264_34, s_264_37, s_264_41, s_264_42, s_264_46, s_264_47, s_264_50, s_264_51, s_264_55, s_264_57, s_264_59, s_264_60, s_264_63, s_264_64, s_264_65, s_264_66, s_264_72, s_264_73, s_264_74, s_264_76, s_264_77, s_264_80, s_264_81, s_264_88, s_264_90, s_264_91, s_264_92, s_264_95, s_264_100, s_264_103, s_264_104, s_264_107, s_264_109, s_264_111, s_264_112, s_264_113, s_264_114, s_264_117, s_264_119, s_264_121, s_264_122, s_264_123, s_264_124, s_264_125, s_264_127, s_264_128, s_264_131, s_264_132, s_264_135, s_264_138, s_264_139, s_264_140, s_264_146, s_264_148, s_264_149, s_264_152, s_264_154, s_264_156, s_264_157, s_264_158, s_264_159, s_264_160, s_264_161, s_264_162, s_264_166, s_264_167, s_264_168, s_264_169, s_264_170, s_264_173, s_264_176, s_264_177, s_264_178, s_264_181, s_264_182, s_264_183, s_264_186, s_264_190, s_264_191, s_264_192, s_264_193, s_264_199, s_264_203, s_264_204, true_and, and_true, sc0, sc1, sc2, sc3, sc4, Option.toList, List.cons_append, List.nil_append, clr, ne_eq, not_false_eq_true, not_true_eq_false, false_and, and_false, true_or, or_true, or_false, false_or, forall_const, Nat.reduceEqDiff, List.length_nil, List.length_cons, Nat.zero_le, Nat.reduceAdd, Nat.reduceLeDiff, false_implies, true_implies, Int.reduceEq, Int.reduceNe, Int.reduceLT, Int.reduceLE, Int.reduceNeg, Int.reduceToNat, Int.toNat_natCast, Nat.reduceLT, and_self, Decidable.not_not, kR_1, kR_2, kR_3, kR_4, kR_5, kR_6, kR_7, kR_8, kR_9, kR_10, kR_11, kR_12, kR_13, kR_14, kR_15, kR_16, kR_17, kR_18, kR_19, kR_20, kR_21, kR_22, kR_23, pR_0, pR_5, pR_6, pR_8, pR_11, pR_16, pR_17, pR_18, pR_21, pR_22, pR_23, pR_24, pR_26, pR_28, pR_29, pR_30, pR_33, pR_34, pR_35, pR_38, pR_41, pR_42, pR_43]
        refine s_264_97 (Nat.le_of_ble_eq_true rfl) kR_1 (hrf d (by omega)) ?_
        unfold yrL at hy
        by_cases c5 : A1 (72 + f) = 0 ∧ 8 ≤ cnt (lkB A1) z
        · rw [if_pos c5] at hy
          subst hy
          dsimp only at ih'
          have c6 : (A1 (72 + f) = 0 ∧ (cnt (lkB A1) z : Int) = 8) := ⟨c5.1, by omega⟩
          rw [if_pos c6]
          simp only [s_264_0, s_264_1, s_264_2, s_264_5, s_264_6, s_264_7, s_264_12, s_264_15, s_264_16, s_264_17, s_264_18, s_264_19, s_264_22, s_264_23, s_264_24, s_264_25, s_264_26, s_264_29, s_264_30, s_264_33, s_264_34, s_264_37, s_264_41, s_264_42, s_264_46, s_264_47, s_264_50, s_264_51, s_264_55, s_264_57, s_264_59, s_264_60, s_264_63, s_264_64, s_264_65, s_264_66, s_264_72, s_264_73, s_264_74, s_264_76, s_264_77, s_264_80, s_264_81, s_264_88, s_264_90, s_264_91, s_264_92, s_264_95, s_264_100, s_264_103, s_264_104, s_264_107, s_264_109, s_264_111, s_264_112, s_264_113, s_264_114, s_264_117, s_264_119, s_264_121, s_264_122, s_264_123, s_264_124, s_264_125, s_264_127, s_264_128, s_264_131, s_264_132, s_264_135, s_264_138, s_264_139, s_264_140, s_264_146, s_264_148, s_264_149, s_264_152, s_264_154, s_264_156, s_264_157, s_264_158, s_264_159, s_264_160, s_264_161, s_264_162, s_264_166, s_264_167, s_264_168, s_264_169, s_264_170, s_264_173, s_264_176, s_264_177, s_264_178, s_264_181, s_264_182, s_264_183, s_264_186, s_264_190, s_264_191, s_264_192, s_264_193, s_264_199, s_264_203, s_264_204, true_and, and_true, sc0, sc1, sc2, sc3, sc4, Option.toList, List.cons_append, List.nil_append, clr, ne_eq, not_false_eq_true, not_true_eq_false, false_and, and_false, true_or, or_true, or_false, false_or, forall_const, Nat.reduceEqDiff, List.length_nil, List.length_cons, Nat.zero_le, Nat.reduceAdd, Nat.reduceLeDiff, false_implies, true_implies, Int.reduceEq, Int.reduceNe, Int.reduceLT, Int.reduceLE, Int.reduceNeg, Int.reduceToNat, Int.toNat_natCast, Nat.reduceLT, and_self, Decidable.not_not, kR_1, kR_2, kR_3, kR_4, kR_5, kR_6, kR_7, kR_8, kR_9, kR_10, kR_11, kR_12, kR_13, kR_14, kR_15, kR_16, kR_17, kR_18, kR_19, kR_20, kR_21, kR_22, kR_23, pR_0, pR_5, pR_6, pR_8, pR_11, pR_16, pR_17, pR_18, pR_21, pR_22, pR_23, pR_24, pR_26, pR_28, pR_29, pR_30, pR_33, pR_34, pR_35, pR_38, pR_41, pR_42, pR_43, c4', EqW_o en]
          exact ih' rd1 K2 _ _ o39 a2 o31 o10 f2
        · rw [if_neg c5] at hy
          subst hy
          dsimp only at ih'
          have c6 : ¬ (A1 (72 + f) = 0 ∧ (cnt (lkB A1) z : Int) = 8) := fun w => c5 ⟨w.1, by omega⟩
          rw [if_neg c6]
          have e1 : EqW (w32 (72 + (f : Int))) (((72 + f : Nat) : Int)) := EqW_i <| by unfold w32; omega
          have hb1 := (hO.1.2.1 f hfz).2.2
          have hlt : ((72 + f : Nat) : Int) < 133 := by omega
          have hge : (0 : Int) ≤ ((72 + f : Nat) : Int) := by omega
          have e2 : K2 15 (72 + f) = A1 (72 + f) := a2 _ (by omega)
          have e3 : EqW (w32 (1 - A1 (72 + f))) (1 - A1 (72 + f)) := EqW_i <| w32s (by omega)
          simp only [s_264_0, s_264_1, s_264_2, s_264_5, s_264_6, s_264_7, s_264_12, s_264_15, s_264_16, s_264_17, s_264_18, s_264_19, s_264_22, s_264_23, s_264_24, s_264_25, s_264_26, s_264_29, s_264_30, s_264_33, s_264_34, s_264_37, s_264_41, s_264_42, s_264_46, s_264_47, s_264_50, s_264_51, s_264_55, s_264_57, s_264_59, s_264_60, s_264_63, s_264_64, s_264_65, s_264_66, s_264_72, s_264_73, s_264_74, s_264_76, s_264_77, s_264_80, s_264_81, s_264_88, s_264_90, s_264_91, s_264_92, s_264_95, s_264_100, s_264_103, s_264_104, s_264_107, s_264_109, s_264_111, s_264_112, s_264_113, s_264_114, s_264_117, s_264_119, s_264_121, s_264_122, s_264_123, s_264_124, s_264_125, s_264_127, s_264_128, s_264_131, s_264_132, s_264_135, s_264_138, s_264_139, s_264_140, s_264_146, s_264_148, s_264_149, s_264_152, s_264_154, s_264_156, s_264_157, s_264_158, s_264_159, s_264_160, s_264_161, s_264_162, s_264_166, s_264_167, s_264_168, s_264_169, s_264_170, s_264_173, s_264_176, s_264_177, s_264_178, s_264_181, s_264_182, s_264_183, s_264_186, s_264_190, s_264_191, s_264_192, s_264_193, s_264_199, s_264_203, s_264_204, true_and, and_true, sc0, sc1, sc2, sc3, sc4, Option.toList, List.cons_append, List.nil_append, clr, ne_eq, not_false_eq_true, not_true_eq_false, false_and, and_false, true_or, or_true, or_false, false_or, forall_const, Nat.reduceEqDiff, List.length_nil, List.length_cons, Nat.zero_le, Nat.reduceAdd, Nat.reduceLeDiff, false_implies, true_implies, Int.reduceEq, Int.reduceNe, Int.reduceLT, Int.reduceLE, Int.reduceNeg, Int.reduceToNat, Int.toNat_natCast, Nat.reduceLT, and_self, Decidable.not_not, kR_1, kR_2, kR_3, kR_4, kR_5, kR_6, kR_7, kR_8, kR_9, kR_10, kR_11, kR_12, kR_13, kR_14, kR_15, kR_16, kR_17, kR_18, kR_19, kR_20, kR_21, kR_22, kR_23, pR_0, pR_5, pR_6, pR_8, pR_11, pR_16, pR_17, pR_18, pR_21, pR_22, pR_23, pR_24, pR_26, pR_28, pR_29, pR_30, pR_33, pR_34, pR_35, pR_38, pR_41, pR_42, pR_43, c4', EqW_o en, EqW_o (EqW_o e1), hlt, hge, e2, EqW_o (EqW_o e3), Int.toNat_natCast]
          refine ⟨by omega, by omega, ?_⟩
          refine ih' rd1 (uM K2 15 (72 + f) (1 - A1 (72 + f))) _ _ (by rw [uM_ne (by decide)]; exact o39) (fun j hj => ?_) (by rw [uM_ne (by decide)]; exact o31) (by rw [uM_ne (by decide)]; exact o10) (Fr_o f2 (by decide) (by decide))
          rw [uM_at, if_pos rfl]
          unfold tgA
          by_cases e : j = 72 + f
          · rw [if_pos e, e, upN_at]
          · rw [if_neg e, upN_ne e]; exact a2 j hj
      have c4 : w = 3 := by omega
      subst c4
      rw [if_neg c3] at hy
      have g3 : K1 1 3 = (n : Int) := hWK.1.1.2.2.1
      have c3' : ¬ (3 : Int) = 2 := by decide
      by_cases c5 : n = 0
      · rw [if_pos c5] at hy
        subst hy
        dsimp only at ih'
        have c6 : (n : Int) ≤ 0 := by omega
        simp only [s_264_0, s_264_1, s_264_2, s_264_5, s_264_6, s_264_7, s_264_12, s_264_15, s_264_16, s_264_17, s_264_18, s_264_19, s_264_22, s_264_23, s_264_24, s_264_25, s_264_26, s_264_29, s_264_30, s_264_33, s_264_34, s_264_37, s_264_41, s_264_42, s_264_46, s_264_47, s_264_50, s_264_51, s_264_55, s_264_57, s_264_59, s_264_60, s_264_63, s_264_64, s_264_65, s_264_66, s_264_72, s_264_73, s_264_74, s_264_76, s_264_77, s_264_80, s_264_81, s_264_88, s_264_90, s_264_91, s_264_92, s_264_95, s_264_100, s_264_103, s_264_104, s_264_107, s_264_109, s_264_111, s_264_112, s_264_113, s_264_114, s_264_117, s_264_119, s_264_121, s_264_122, s_264_123, s_264_124, s_264_125, s_264_127, s_264_128, s_264_131, s_264_132, s_264_135, s_264_138, s_264_139, s_264_140, s_264_146, s_264_148, s_264_149, s_264_152, s_264_154, s_264_156, s_264_157, s_264_158, s_264_159, s_264_160, s_264_161, s_264_162, s_264_166, s_264_167, s_264_168, s_264_169, s_264_170, s_264_173, s_264_176, s_264_177, s_264_178, s_264_181, s_264_182, s_264_183, s_264_186, s_264_190, s_264_191, s_264_192, s_264_193, s_264_199, s_264_203, s_264_204, true_and, and_true, sc0, sc1, sc2, sc3, sc4, Option.toList, List.cons_append, List.nil_append, clr, ne_eq, not_false_eq_true, not_true_eq_false, false_and, and_false, true_or, or_true, or_false, false_or, forall_const, Nat.reduceEqDiff, List.length_nil, List.length_cons, Nat.zero_le, Nat.reduceAdd, Nat.reduceLeDiff, false_implies, true_implies, Int.reduceEq, Int.reduceNe, Int.reduceLT, Int.reduceLE, Int.reduceNeg, Int.reduceToNat, Int.toNat_natCast, Nat.reduceLT, and_self, Decidable.not_not, kR_1, kR_2, kR_3, kR_4, kR_5, kR_6, kR_7, kR_8, kR_9, kR_10, kR_11, kR_12, kR_13, kR_14, kR_15, kR_16, kR_17, kR_18, kR_19, kR_20, kR_21, kR_22, kR_23, pR_0, pR_5, pR_6, pR_8, pR_11, pR_16, pR_17, pR_18, pR_21, pR_22, pR_23, pR_24, pR_26, pR_28, pR_29, pR_30, pR_33, pR_34, pR_35, pR_38, pR_41, pR_42, pR_43, c2, c3', g3, c6, EqW_o en]
        exact ih' rd1 K1 _ _ n39 a1 n31 n10 f1
      rw [if_neg c5] at hy
      have c6 : ¬ (n : Int) ≤ 0 := by omega
      have hn0 : (0 : Int) < (n : Int) := by omega
      have v2 := dwV_b s2 (n : Int) hn0
      have hd3 := hd2 (n : Int) hn0
      obtain ⟨f, hf⟩ : ∃ f : Nat, dwV s2 (n : Int) = (f : Int) := ⟨(dwV s2 (n : Int)).toNat, by omega⟩
      rw [hf, Int.toNat_natCast] at hy
      rw [hf] at hd3 v2
      have hfn : f < n := by omega
      have hd4 := r_draw' (rd := rd1) (ru := ru) (k := 3) (by decide) o39
      generalize hs3 : dwN s2 = s3 at hy hd4
      generalize hK3 : uM K2 1 39 s3 = K3 at hd4
      have f3 : Fr SQl TQl N K3 := by rw [← hK3]; exact Fr_1 f2 (by decide)
      have a3 : ArR K3 15 A1 := fun j hj => by rw [← hK3, uM_ne (by decide)]; exact a2 j hj
      have p31 : K3 1 31 = (ms : Int) := by rw [← hK3]; simp [uM_at, o31]
      have p10 : K3 1 10 = 0 := by rw [← hK3]; simp [uM_at, o10]
      have p39 : K3 1 39 = s3 := by rw [← hK3]; simp [uM_at]
      have v3 := dwV_b s3 3 (by decide)
      generalize hk3 : dwV s3 3 = k3 at hy hd4 v3
      subst hy
      dsimp only at ih'
      have e1 : EqW (w32 (114 + (f : Int))) (((114 + f : Nat) : Int)) := EqW_i <| by unfold w32; omega
      have e7 : EqW (w32 (1 + k3)) (k3 + 1) := EqW_i <| by rw [Int.add_comm]; exact w32s (by omega)
      have hlt : ((114 + f : Nat) : Int) < 133 := by omega
      have hge : (0 : Int) ≤ ((114 + f : Nat) : Int) := by omega
      have e2 : K2 15 (114 + f) = A1 (114 + f) := a2 _ (by omega)
      simp only [s_264_0, s_264_1, s_264_2, s_264_5, s_264_6, s_264_7, s_264_12, s_264_15, s_264_16, s_264_17, s_264_18, s_264_19, s_264_22, s_264_23, s_264_24, s_264_25, s_264_26, s_264_29, s_264_30, s_264_33, s_264_34, s_264_37, s_264_41, s_264_42, s_264_46, s_264_47, s_264_50, s_264_51, s_264_55, s_264_57, s_264_59, s_264_60, s_264_63, s_264_64, s_264_65, s_264_66, s_264_72, s_264_73, s_264_74, s_264_76, s_264_77, s_264_80, s_264_81, s_264_88, s_264_90, s_264_91, s_264_92, s_264_95, s_264_100, s_264_103, s_264_104, s_264_107, s_264_109, s_264_111, s_264_112, s_264_113, s_264_114, s_264_117, s_264_119, s_264_121, s_264_122, s_264_123, s_264_124, s_264_125, s_264_127, s_264_128, s_264_131, s_264_132, s_264_135, s_264_138, s_264_139, s_264_140, s_264_146, s_264_148, s_264_149, s_264_152, s_264_154, s_264_156, s_264_157, s_264_158, s_264_159, s_264_160, s_264_161, s_264_162, s_264_166, s_264_167, s_264_168, s_264_169, s_264_170, s_264_173, s_264_176, s_264_177, s_264_178, s_264_181, s_264_182, s_264_183, s_264_186, s_264_190, s_264_191, s_264_192, s_264_193, s_264_199, s_264_203, s_264_204, true_and, and_true, sc0, sc1, sc2, sc3, sc4, Option.toList, List.cons_append, List.nil_append, clr, ne_eq, not_false_eq_true, not_true_eq_false, false_and, and_false, true_or, or_true, or_false, false_or, forall_const, Nat.reduceEqDiff, List.length_nil, List.length_cons, Nat.zero_le, Nat.reduceAdd, Nat.reduceLeDiff, false_implies, true_implies, Int.reduceEq, Int.reduceNe, Int.reduceLT, Int.reduceLE, Int.reduceNeg, Int.reduceToNat, Int.toNat_natCast, Nat.reduceLT, and_self, Decidable.not_not, kR_1, kR_2, kR_3, kR_4, kR_5, kR_6, kR_7, kR_8, kR_9, kR_10, kR_11, kR_12, kR_13, kR_14, kR_15, kR_16, kR_17, kR_18, kR_19, kR_20, kR_21, kR_22, kR_23, pR_0, pR_5, pR_6, pR_8, pR_11, pR_16, pR_17, pR_18, pR_21, pR_22, pR_23, pR_24, pR_26, pR_28, pR_29, pR_30, pR_33, pR_34, pR_35, pR_38, pR_41, pR_42, pR_43, c2, c3', g3, c6]
      refine s_264_143 (Nat.le_of_ble_eq_true rfl) kR_1 (hd3 d (by omega)) ?_
      simp only [s_264_0, s_264_1, s_264_2, s_264_5, s_264_6, s_264_7, s_264_12, s_264_15, s_264_16, s_264_17, s_264_18, s_264_19, s_264_22, s_264_23, s_264_24, s_264_25, s_264_26, s_264_29, s_264_30, s_264_33, s_264_34, s_264_37, s_264_41, s_264_42, s_264_46, s_264_47, s_264_50, s_264_51, s_264_55, s_264_57, s_264_59, s_264_60, s_264_63, s_264_64, s_264_65, s_264_66, s_264_72, s_264_73, s_264_74, s_264_76, s_264_77, s_264_80, s_264_81, s_264_88, s_264_90, s_264_91, s_264_92, s_264_95, s_264_100, s_264_103, s_264_104, s_264_107, s_264_109, s_264_111, s_264_112, s_264_113, s_264_114, s_264_117, s_264_119, s_264_121, s_264_122, s_264_123, s_264_124, s_264_125, s_264_127, s_264_128, s_264_131, s_264_132, s_264_135, s_264_138, s_264_139, s_264_140, s_264_146, s_264_148, s_264_149, s_264_152, s_264_154, s_264_156, s_264_157, s_264_158, s_264_159, s_264_160, s_264_161, s_264_162, s_264_166, s_264_167, s_264_168, s_264_169, s_264_170, s_264_173, s_264_176, s_264_177, s_264_178, s_264_181, s_264_182, s_264_183, s_264_186, s_264_190, s_264_191, s_264_192, s_264_193, s_264_199, s_264_203, s_264_204, true_and, and_true, sc0, sc1, sc2, sc3, sc4, Option.toList, List.cons_append, List.nil_append, clr, ne_eq, not_false_eq_true, not_true_eq_false, false_and, and_false, true_or, or_true, or_false, false_or, forall_const, Nat.reduceEqDiff, List.length_nil, List.length_cons, Nat.zero_le, Nat.reduceAdd, Nat.reduceLeDiff, false_implies, true_implies, Int.reduceEq, Int.reduceNe, Int.reduceLT, Int.reduceLE, Int.reduceNeg, Int.reduceToNat, Int.toNat_natCast, Nat.reduceLT, and_self, Decidable.not_not, kR_1, kR_2, kR_3, kR_4, kR_5, kR_6, kR_7, kR_8, kR_9, kR_10, kR_11, kR_12, kR_13, kR_14, kR_15, kR_16, kR_17, kR_18, kR_19, kR_20, kR_21, kR_22, kR_23, pR_0, pR_5, pR_6, pR_8, pR_11, pR_16, pR_17, pR_18, pR_21, pR_22, pR_23, pR_24, pR_26, pR_28, pR_29, pR_30, pR_33, pR_34, pR_35, pR_38, pR_41, pR_42, pR_43, EqW_o (EqW_o e1), hlt, hge, e2, Int.toNat_natCast]
      refine ⟨by omega, ?_⟩
      refine s_264_163 (Nat.le_of_ble_eq_true rfl) kR_1 (hd4 d (by omega)) ?_
      simp only [s_264_0, s_264_1, s_264_2, s_264_5, s_264_6, s_264_7, s_264_12, s_264_15, s_264_16, s_264_17, s_264_18, s_264_19, s_264_22, s_264_23, s_264_24, s_264_25, s_264_26, s_264_29, s_264_30, s_264_33, s_264_34, s_264_37, s_264_41, s_264_42, s_264_46, s_264_47, s_264_50, s_264_51, s_264_55, s_264_57, s_264_59, s_264_60, s_264_63, s_264_64, s_264_65, s_264_66, s_264_72, s_264_73, s_264_74, s_264_76, s_264_77, s_264_80, s_264_81, s_264_88, s_264_90, s_264_91, s_264_92, s_264_95, s_264_100, s_264_103, s_264_104, s_264_107, s_264_109, s_264_111, s_264_112, s_264_113, s_264_114, s_264_117, s_264_119, s_264_121, s_264_122, s_264_123, s_264_124, s_264_125, s_264_127, s_264_128, s_264_131, s_264_132, s_264_135, s_264_138, s_264_139, s_264_140, s_264_146, s_264_148, s_264_149, s_264_152, s_264_154, s_264_156, s_264_157, s_264_158, s_264_159, s_264_160, s_264_161, s_264_162, s_264_166, s_264_167, s_264_168, s_264_169, s_264_170, s_264_173, s_264_176, s_264_177, s_264_178, s_264_181, s_264_182, s_264_183, s_264_186, s_264_190, s_264_191, s_264_192, s_264_193, s_264_199, s_264_203, s_264_204, true_and, and_true, sc0, sc1, sc2, sc3, sc4, Option.toList, List.cons_append, List.nil_append, clr, ne_eq, not_false_eq_true, not_true_eq_false, false_and, and_false, true_or, or_true, or_false, false_or, forall_const, Nat.reduceEqDiff, List.length_nil, List.length_cons, Nat.zero_le, Nat.reduceAdd, Nat.reduceLeDiff, false_implies, true_implies, Int.reduceEq, Int.reduceNe, Int.reduceLT, Int.reduceLE, Int.reduceNeg, Int.reduceToNat, Int.toNat_natCast, Nat.reduceLT, and_self, Decidable.not_not, kR_1, kR_2, kR_3, kR_4, kR_5, kR_6, kR_7, kR_8, kR_9, kR_10, kR_11, kR_12, kR_13, kR_14, kR_15, kR_16, kR_17, kR_18, kR_19, kR_20, kR_21, kR_22, kR_23, pR_0, pR_5, pR_6, pR_8, pR_11, pR_16, pR_17, pR_18, pR_21, pR_22, pR_23, pR_24, pR_26, pR_28, pR_29, pR_30, pR_33, pR_34, pR_35, pR_38, pR_41, pR_42, pR_43, EqW_o (EqW_o e7), hlt, hge, EqW_o en, Int.toNat_natCast]
      refine ⟨by omega, ?_⟩
      refine ih' rd1 (uM K3 15 (114 + f) (bXor (A1 (114 + f)) (bShl 1 (k3 + 1)))) _ _ (by rw [uM_ne (by decide)]; exact p39) (fun j hj => ?_) (by rw [uM_ne (by decide)]; exact p31) (by rw [uM_ne (by decide)]; exact p10) (Fr_o f3 (by decide) (by decide))
      rw [uM_at, if_pos rfl]
      unfold grA
      by_cases e : j = 114 + f
      · rw [if_pos e, e, upN_at]
      · rw [if_neg e, upN_ne e]; exact a3 j hj
  exact main 0 (Nat.zero_le _) rd M2 _ _ i39 l1 i31 i10 (Fr_trans hF1 l2)
end
section
variable {M M' : MM} {b : Bool} {r c z n : Nat} {A B : Nat → Int} {V : GV} {u : Int} {U : List (Nat → Int)} {K : Nat → Option (Nat → Int)} {m : Nat} {F : Nat → Nat} {I : Nat → Bool} {T : Nat → Int} {ln : Nat} {R R' : List Int}
theorem RelC_18 {v : Int} (h : RelC M b r c z n A B V u U K m F I T ln R) : RelC (uM M 1 18 v) b r c z n A B V u U K m F I T ln R := by
  obtain ⟨h1, h2, h3, h4, h5, h6, h7, h8⟩ := h
  refine ⟨WdC_sy h1 Sy_18, UnC_sm h2 (fun p q1 q2 => uM_ne (by omega)), KpC_sm h3 (fun p q1 q2 => uM_ne (by omega)), ?_, TxC_sm h5 (by simp [uM_at]) (uM_ne (by decide)), ?_, by rw [uM_ne (by decide)]; exact h7, by rw [uM_ne (by decide)]; exact h8⟩
  · unfold PrC at h4 ⊢
    simpa [uM_at] using h4
  · unfold ToC at h6 ⊢
    rw [uM_ne (by decide), uM_ne (by decide)]; exact h6
theorem RelC_sy (h : RelC M b r c z n A B V u U K m F I T ln R) (hs : Sy M' M) (ht : ToC M' R') : RelC M' b r c z n A B V u U K m F I T ln R' := by
  have e1 : Sq (uM M' 1 18 (M 1 18)) M := fun p hp => by
    funext k
    rw [uM_at]
    by_cases e : p = 1
    · subst e
      rw [if_pos rfl]
      by_cases e2 : k = 18
      · rw [if_pos e2, e2]
      · rw [if_neg e2]; exact hs.2 k e2
    · rw [if_neg e, hs.1 p hp e]
  have e2 : ToC (uM M' 1 18 (M 1 18)) R' := by
    unfold ToC at ht ⊢
    rw [uM_ne (by decide), uM_ne (by decide)]; exact ht
  have h2 := RelC_q h (QC_s (b := b) (v := pI 0) e1 e2)
  have h3 := RelC_18 (v := M' 1 18) h2
  have e3 : uM (uM M' 1 18 (M 1 18)) 1 18 (M' 1 18) = M' := by
    funext p k
    rw [uM_at, uM_at]
    by_cases e : p = 1
    · subst e
      rw [if_pos rfl]
      by_cases e2 : k = 18
      · rw [if_pos e2, e2]
      · rw [if_neg e2, if_pos rfl, if_neg e2]
    · rw [if_neg e, if_neg e]
  rw [e3] at h3
  exact h3
end
theorem j_years {t : Nat} {s k : Int} : Jn t 145 264 [pI s, pI k] := by
  intro P Q M N hR d hd
  obtain ⟨b, rd, r, c, z, n, A, B, V, u, U, K, m, F, I, T, ln, R, rfl, rfl, hC, hD, hU, hK⟩ := hR
  by_cases hk : 1 ≤ k ∧ k ≤ 40
  case neg =>
    have e1 := c_years_no (b := b) (M := M) (s := s) hk d (by omega)
    have e2 := r_years_no (rd := rd) (ru := 7) (N := N) (s := s) hk d (by omega)
    exact ⟨_, _, _, _, _, e1, e2, b, rd, r, c, z, n, A, B, V, u, U, K, m, F, I, T, ln, R, rfl, rfl, hC, RelR_10 hD, hU, hK⟩
  obtain ⟨i, rfl⟩ : ∃ i : Nat, k = (i : Int) := ⟨k.toNat, by omega⟩
  obtain ⟨x, P1, M1, e1, rfl, rfl, q1, q3⟩ := c_years (b := b) (s := s) (k := i) hC.1 (by omega) d (by omega)
  obtain ⟨x', Q1, N1, e2, q2⟩ := r_years (rd := rd) (s := s) (k := i) hD.1 (by omega) d (by omega)
  have hx' := q2.2.1
  obtain ⟨rd', hq⟩ := q2.1
  subst hx'
  exact ⟨_, _, _, _, _, e1, e2, b, rd', r, c, z, n, A, B, V, u, U, K, m, F, I, T, ln, _, rfl, hq, RelC_sy hC q1 q3, RelR_q hD q2, hU, hK⟩
