/-! constructors: Band; the object itself -/
def bst (P : PM) : Nat → PM
  | 0 => P
  | i + 1 => uP (rP (bst P i) (152 + 2 * i) [0, 0, 0, 152 + 2 * i + 1]) 146 i (152 + 2 * i)
theorem bst_ne {P : PM} {o : Nat} (h1 : o ≠ 146) (h2 : o < 152) : ∀ i, bst P i o = P o
  | 0 => rfl
  | i + 1 => by
    show uP (rP (bst P i) (152 + 2 * i) [0, 0, 0, 152 + 2 * i + 1]) 146 i (152 + 2 * i) o = P o
    rw [uP_ne h1, rP_ne (by omega)]
    exact bst_ne h1 h2 i
theorem bst_z {P : PM} {M : MM} (h : Vz P M 152) : ∀ i, Vz (bst P i) M (152 + 2 * i)
  | 0 => h
  | i + 1 => fun o ho k => by
    refine ⟨?_, (h o (by omega) k).2⟩
    show uP (rP (bst P i) (152 + 2 * i) [0, 0, 0, 152 + 2 * i + 1]) 146 i (152 + 2 * i) o k = 0
    rw [uP_ne (by omega), rP_ne (by omega)]
    exact (bst_z h i o (by omega) k).1
def bandP (P : PM) : PM := bst (uP (rP (uP (uP (uP (uP P 145 2 146) 145 3 147) 145 4 148) 145 0 3) 149 [3, 150, 151]) 145 1 149) 6
theorem Vz_up {P : PM} {M : MM} {n n' : Nat} (h : Vz P M n) (hn : n ≤ n') : Vz P M n' := fun o ho k => h o (by omega) k
theorem Vz_uP {P : PM} {M : MM} {n o k v : Nat} (h : Vz P M n) (ho : o < n) : Vz (uP P o k v) M n := fun o' ho' k' => ⟨by rw [uP_ne (by omega)]; exact (h o' ho' k').1, (h o' ho' k').2⟩
theorem Vz_rP {P : PM} {M : MM} {n o : Nat} {l : List Nat} (h : Vz P M n) (ho : o < n) : Vz (rP P o l) M n := fun o' ho' k' => ⟨by rw [rP_ne (by omega)]; exact (h o' ho' k').1, (h o' ho' k').2⟩
theorem Vz_uM {P : PM} {M : MM} {n o k : Nat} {v : Int} (h : Vz P M n) (ho : o < n) : Vz P (uM M o k v) n := fun o' ho' k' => ⟨(h o' ho' k').1, by rw [uM_ne (by omega)]; exact (h o' ho' k').2⟩
section
variable {P : PM} {M : MM}
theorem c_Band (hV : Vz P M 146) (hf : ∀ k, P 145 k = 0 ∧ M 145 k = 0) : Cn 2 (18, 333) 5 [pR 145, pR 3] (LC.take 146) P M (LC.take 164) (fun P' M' => P' = bandP P ∧ M' = M) := by
  refine Cn_k [some (pR 145), some (pR 3), none] (Nat.le_of_ble_eq_true rfl) rfl (fun d hd Q X hQ => ?_)
  have p0 := Vz_P hV
  have pj := Vz_Pj hV
  have m0 := Vz_M hV
  have mj := Vz_Mj hV
  have hl : (LC.take 146).length = 146 := tk_len (by decide)
  have z1 : zP P 147 = P := pj 1
  have z2 : zP P 148 = P := pj 2
  have z3 : zP P 149 = P := pj 3
  have y1 : zM M 147 = M := mj 1
  have y2 : zM M 148 = M := mj 2
  have y3 : zM M 149 = M := mj 3
  have n0 : ¬ (146 : Nat) = 145 := by decide
  have n1 : ¬ (147 : Nat) = 145 := by decide
  have n2 : ¬ (148 : Nat) = 145 := by decide
  have n3 : ¬ (149 : Nat) = 145 := by decide
  have q0 : ¬ (146 : Nat) = 0 := by decide
  have q1 : ¬ (147 : Nat) = 0 := by decide
  have q2 : ¬ (148 : Nat) = 0 := by decide
  have q3 : ¬ (3 : Nat) = 0 := by decide
  have q4 : ¬ (149 : Nat) = 0 := by decide
  have k0 : ∀ b, kd (b, LC.take 146) 145 = (0, 0) := fun b => kd_t (by decide)
  have k1 : ∀ b l, kd (b, LC.take 146 ++ l) 145 = (0, 0) := fun b l => kd_a (by rw [hl]; decide) (k0 b)
  have fM : ∀ k, M 145 k = 0 := fun k => (hf k).2
  have t150 : LC.take 146 ++ [(7, 6), (5, 6), (5, 6), (0, 9)] = LC.take 150 := by decide +kernel
  have t152 : LC.take 150 ++ [(1, 36), (1, 36)] = LC.take 152 := by decide +kernel
  obtain ⟨P0, hP0⟩ : ∃ J, J = uP (uP (uP (uP P 145 2 146) 145 3 147) 145 4 148) 145 0 3 := ⟨_, rfl⟩
  have hV0 : Vz P0 M 146 := by rw [hP0]; exact Vz_uP (Vz_uP (Vz_uP (Vz_uP hV (by decide)) (by decide)) (by decide)) (by decide)
  obtain ⟨P', M', hW, hP', hM'⟩ := c_Walker (L := LC.take 150) (o := 149) (q := 3) (n := 150) (tk_len (by decide)) (by decide) (by decide +kernel) (by decide) (Vz_up hV0 (by decide)) (fun k => hV0 149 (by decide) k) d (by omega)
  rw [t152, hM', hP'] at hW
  obtain ⟨P1, hP1⟩ : ∃ J, J = uP (rP P0 149 [3, 150, 151]) 145 1 149 := ⟨_, rfl⟩
  have hV1 : Vz P1 M 152 := by rw [hP1]; exact Vz_uP (Vz_rP (Vz_up hV0 (by decide)) (by decide)) (by decide)
  have a2 : P1 145 2 = 146 := by rw [hP1, hP0]; simp [uP, rP]
  have hQ' : Q none (kz (LC.take 164)) (bst P1 6) M := hQ _ _ ⟨by rw [hP1, hP0]; rfl, rfl⟩
  have loop : ∀ (m i : Nat), i + m = 6 → wpB (Ev d) 5 Q X 63 [some (pR 145), some (pR 3), some (pI (i : Int))] [] ((2 * m, 40 * m), LC.take (152 + 2 * i)) (bst P1 i) M := by
    intro m
    induction m with
    | zero =>
      intro i hi
      have e : i = 6 := by omega
      subst e
      have g : (6 : Int) ≤ ((6 : Nat) : Int) := by decide
      rw [s_5_63]
      simp only [s_5_0, s_5_4, s_5_5, s_5_10, s_5_13, s_5_14, s_5_18, s_5_21, s_5_22, s_5_26, s_5_29, s_5_30, s_5_31, s_5_34, s_5_35, s_5_36, s_5_39, s_5_40, s_5_41, s_5_44, s_5_45, s_5_46, s_5_49, s_5_53I, s_5_53, s_5_54, s_5_58, s_5_61, s_5_62, s_5_64, s_5_66, s_5_69, s_5_70, s_5_73, s_5_77I, s_5_77, s_5_81, s_5_82, s_5_85, s_5_88, n_5_1, n_5_7, n_5_16, n_5_24, n_5_50, n_5_74, true_and, and_true, sc0, sc1, sc2, sc3, sc4, Option.toList, List.cons_append, List.nil_append, clr, ne_eq, not_false_eq_true, not_true_eq_false, false_and, and_false, true_or, or_true, or_false, false_or, forall_const, Nat.reduceEqDiff, List.length_nil, List.length_cons, Nat.zero_le, Nat.reduceAdd, Nat.reduceLeDiff, false_implies, true_implies, Int.reduceEq, Int.reduceNe, Int.reduceLT, Int.reduceLE, Int.reduceNeg, Int.reduceToNat, Int.toNat_natCast, Nat.reduceLT, and_self, Decidable.not_not, Nat.reduceSub, Nat.sub_self, List.length_append, List.append_assoc, g]
      exact hQ'
    | succ m ih =>
      intro i hi
      have g : ¬ (6 : Int) ≤ (i : Int) := by omega
      have hlen : (LC.take (152 + 2 * i)).length = 152 + 2 * i := tk_len (by omega)
      have hVi := bst_z hV1 i
      have kk : ∀ b, kd (b, LC.take (152 + 2 * i)) 145 = (0, 0) := fun b => kd_t (by omega)
      have c1 : bst P1 i 145 2 = 146 := by rw [bst_ne (by decide) (by decide)]; exact a2
      have zp := Vz_P hVi
      have zm := Vz_M hVi
      have hV' : Vz (bst P1 i) M (152 + 2 * i + 1) := fun o ho k => hVi o (by omega) k
      obtain ⟨P', M', hE, hP', hM'⟩ := c_Path (L := LC.take (152 + 2 * i) ++ [(0, 5)]) (o := 152 + 2 * i) (n := 152 + 2 * i + 1) (by rw [List.length_append, hlen]; rfl) (by omega) (getD_l hlen) hV' (fun k => hVi _ (Nat.le_refl _) k) d (by omega)
      rw [tk_pa i (by omega), hM', hP'] at hE
      have k30 : ∀ b, kd (b, LC.take (152 + 2 * (i + 1))) 146 = (7, 6) := fun b => kd_t (by omega)
      have kst : ∀ b, kd (b, LC.take (152 + 2 * (i + 1))) (152 + 2 * i) = (0, 5) := fun b => by rw [kd_t (by omega)]; exact kd_pa i (by omega)
      have bi : (0 : Int) ≤ (i : Int) ∧ (i : Int) < ((6 : Nat) : Int) := by omega
      have en := EqW_i (w32n (show i < 1000000 by omega))
      have ihi := ih (i + 1) (by omega)
      rw [show bst P1 (i + 1) = uP (rP (bst P1 i) (152 + 2 * i) [0, 0, 0, 152 + 2 * i + 1]) 146 i (152 + 2 * i) from rfl] at ihi
      have s1 : 1 ≤ 2 * (m + 1) := by omega
      have s2 : 4 ≤ 40 * (m + 1) := by omega
      have s3 : 2 * (m + 1) - 1 - 1 = 2 * m := by omega
      have s4 : 40 * (m + 1) - 4 - 36 = 40 * m := by omega
      rw [s_5_63]
      simp only [s_5_0, s_5_4, s_5_5, s_5_10, s_5_13, s_5_14, s_5_18, s_5_21, s_5_22, s_5_26, s_5_29, s_5_30, s_5_31, s_5_34, s_5_35, s_5_36, s_5_39, s_5_40, s_5_41, s_5_44, s_5_45, s_5_46, s_5_49, s_5_53I, s_5_53, s_5_54, s_5_58, s_5_61, s_5_62, s_5_64, s_5_66, s_5_69, s_5_70, s_5_73, s_5_77I, s_5_77, s_5_81, s_5_82, s_5_85, s_5_88, n_5_1, n_5_7, n_5_16, n_5_24, n_5_50, n_5_74, true_and, and_true, sc0, sc1, sc2, sc3, sc4, Option.toList, List.cons_append, List.nil_append, clr, ne_eq, not_false_eq_true, not_true_eq_false, false_and, and_false, true_or, or_true, or_false, false_or, forall_const, Nat.reduceEqDiff, List.length_nil, List.length_cons, Nat.zero_le, Nat.reduceAdd, Nat.reduceLeDiff, false_implies, true_implies, Int.reduceEq, Int.reduceNe, Int.reduceLT, Int.reduceLE, Int.reduceNeg, Int.reduceToNat, Int.toNat_natCast, Nat.reduceLT, and_self, Decidable.not_not, Nat.reduceSub, Nat.sub_self, List.length_append, List.append_assoc, g, kk, c1, s1, s2, hlen, zp, zm]
      refine i_5_78 (Nat.le_of_ble_eq_true rfl) (show 1 ≤ 2 * (m + 1) - 1 by omega) (show 36 ≤ 40 * (m + 1) - 4 by omega) hE ?_
      rw [s3, s4]
      simp only [s_5_0, s_5_4, s_5_5, s_5_10, s_5_13, s_5_14, s_5_18, s_5_21, s_5_22, s_5_26, s_5_29, s_5_30, s_5_31, s_5_34, s_5_35, s_5_36, s_5_39, s_5_40, s_5_41, s_5_44, s_5_45, s_5_46, s_5_49, s_5_53I, s_5_53, s_5_54, s_5_58, s_5_61, s_5_62, s_5_64, s_5_66, s_5_69, s_5_70, s_5_73, s_5_77I, s_5_77, s_5_81, s_5_82, s_5_85, s_5_88, n_5_1, n_5_7, n_5_16, n_5_24, n_5_50, n_5_74, true_and, and_true, sc0, sc1, sc2, sc3, sc4, Option.toList, List.cons_append, List.nil_append, clr, ne_eq, not_false_eq_true, not_true_eq_false, false_and, and_false, true_or, or_true, or_false, false_or, forall_const, Nat.reduceEqDiff, List.length_nil, List.length_cons, Nat.zero_le, Nat.reduceAdd, Nat.reduceLeDiff, false_implies, true_implies, Int.reduceEq, Int.reduceNe, Int.reduceLT, Int.reduceLE, Int.reduceNeg, Int.reduceToNat, Int.toNat_natCast, Nat.reduceLT, and_self, Decidable.not_not, Nat.reduceSub, Nat.sub_self, List.length_append, List.append_assoc, k30, kst, bi, EqW_o en]
      exact ihi
  have fin := loop 6 0 rfl
  rw [show bst P1 0 = P1 from rfl] at fin
  have k15 : ∀ b, kd (b, LC.take 152) 145 = (0, 0) := fun b => kd_t (by decide)
  simp only [s_5_0, s_5_4, s_5_5, s_5_10, s_5_13, s_5_14, s_5_18, s_5_21, s_5_22, s_5_26, s_5_29, s_5_30, s_5_31, s_5_34, s_5_35, s_5_36, s_5_39, s_5_40, s_5_41, s_5_44, s_5_45, s_5_46, s_5_49, s_5_53I, s_5_53, s_5_54, s_5_58, s_5_61, s_5_62, s_5_64, s_5_66, s_5_69, s_5_70, s_5_73, s_5_77I, s_5_77, s_5_81, s_5_82, s_5_85, s_5_88, n_5_1, n_5_7, n_5_16, n_5_24, n_5_50, n_5_74, true_and, and_true, sc0, sc1, sc2, sc3, sc4, Option.toList, List.cons_append, List.nil_append, clr, ne_eq, not_false_eq_true, not_true_eq_false, false_and, and_false, true_or, or_true, or_false, false_or, forall_const, Nat.reduceEqDiff, List.length_nil, List.length_cons, Nat.zero_le, Nat.reduceAdd, Nat.reduceLeDiff, false_implies, true_implies, Int.reduceEq, Int.reduceNe, Int.reduceLT, Int.reduceLE, Int.reduceNeg, Int.reduceToNat, Int.toNat_natCast, Nat.reduceLT, and_self, Decidable.not_not, Nat.reduceSub, Nat.sub_self, List.length_append, List.append_assoc, hl, p0, m0, z1, z2, z3, y1, y2, y3, zP_u n0, zP_u n1, zP_u n2, zP_u n3, zM_u n0, zM_u n1, zM_u n2, zM_u n3, q0, q1, q2, q3, k0, k1, uM_z (fM _)]
  rw [← hP0, t150]
  refine i_5_55 (Nat.le_of_ble_eq_true rfl) (by decide) (by decide) hW ?_
  simp only [s_5_0, s_5_4, s_5_5, s_5_10, s_5_13, s_5_14, s_5_18, s_5_21, s_5_22, s_5_26, s_5_29, s_5_30, s_5_31, s_5_34, s_5_35, s_5_36, s_5_39, s_5_40, s_5_41, s_5_44, s_5_45, s_5_46, s_5_49, s_5_53I, s_5_53, s_5_54, s_5_58, s_5_61, s_5_62, s_5_64, s_5_66, s_5_69, s_5_70, s_5_73, s_5_77I, s_5_77, s_5_81, s_5_82, s_5_85, s_5_88, n_5_1, n_5_7, n_5_16, n_5_24, n_5_50, n_5_74, true_and, and_true, sc0, sc1, sc2, sc3, sc4, Option.toList, List.cons_append, List.nil_append, clr, ne_eq, not_false_eq_true, not_true_eq_false, false_and, and_false, true_or, or_true, or_false, false_or, forall_const, Nat.reduceEqDiff, List.length_nil, List.length_cons, Nat.zero_le, Nat.reduceAdd, Nat.reduceLeDiff, false_implies, true_implies, Int.reduceEq, Int.reduceNe, Int.reduceLT, Int.reduceLE, Int.reduceNeg, Int.reduceToNat, Int.toNat_natCast, Nat.reduceLT, and_self, Decidable.not_not, Nat.reduceSub, Nat.sub_self, List.length_append, List.append_assoc, k15, q4]
  rw [← hP1]
  exact fin
end
