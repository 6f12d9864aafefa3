/-! nights: alike -/
section
variable (c z n : Nat) (V : GV) (B : Nat → Int) (u : Int) (A : Nat → Int)
noncomputable def cmN : Nat → Nat
  | 0 => 0
  | k + 1 => cmN k + cnt (fun g => decide (hpS c z V (ntI c z n V B u A k) B g)) n
noncomputable def msN : Nat → Nat
  | 0 => 0
  | k + 1 => msN k + cnt (fun g => !decide (hpS c z V (ntI c z n V B u A k) B g)) n
noncomputable def opN : Nat → Nat
  | 0 => 0
  | k + 1 => opN k + cnt (opS c z n V (ntI c z n V B u A k) B u) z
end
section
variable {c z n : Nat} {V : GV} {B : Nat → Int} {u : Int} {A : Nat → Int}
theorem cmN_le : ∀ k, cmN c z n V B u A k ≤ n * k
  | 0 => Nat.zero_le _
  | k + 1 => by
    have h1 := cmN_le k
    have h2 := cnt_le (fun g => decide (hpS c z V (ntI c z n V B u A k) B g)) n
    show cmN c z n V B u A k + _ ≤ _
    rw [Nat.mul_succ]; omega
theorem msN_le : ∀ k, msN c z n V B u A k ≤ n * k
  | 0 => Nat.zero_le _
  | k + 1 => by
    have h1 := msN_le k
    have h2 := cnt_le (fun g => !decide (hpS c z V (ntI c z n V B u A k) B g)) n
    show msN c z n V B u A k + _ ≤ _
    rw [Nat.mul_succ]; omega
theorem opN_le : ∀ k, opN c z n V B u A k ≤ z * k
  | 0 => Nat.zero_le _
  | k + 1 => by
    have h1 := opN_le k
    have h2 := cnt_le (opS c z n V (ntI c z n V B u A k) B u) z
    show opN c z n V B u A k + _ ≤ _
    rw [Nat.mul_succ]; omega
theorem LkV_ntI (h : LkV A z) (hz : z ≤ 36) : ∀ k, LkV (ntI c z n V B u A k) z
  | 0 => h
  | k + 1 => LkV_nt (LkV_ntI h hz k) hz
end
section
variable {M : MM} {b : Bool} {r c z n : Nat} {A B : Nat → Int} {V : GV} {u : Int}
theorem c_passNights {k : Nat} (h : WdC M b r c z n A B V u) (hk : k ≤ 99) : Cw 5 54 [pR 1, pI (k : Int)] LC (PC b) M (fun x P' M' => P' = PC b ∧ x = some (pI (cmN c z n V B u A k : Int)) ∧ SnC M' 5 (ntI c z n V B u A k) B z n ∧ M' 145 6 = (msN c z n V B u A k : Int) ∧ M' 145 7 = (opN c z n V B u A k : Int) ∧ ∀ p, p ≠ qr b + 2 → p ≠ 145 → (p < 5 ∨ 13 ≤ p) → (p < 150 ∨ 164 ≤ p) → M' p = M p) := by
  refine Cw_k [some (pR 1), some (pI (k : Int)), none] (Nat.le_of_ble_eq_true rfl) rfl (fun d hd Q X hQ => ?_)
  obtain ⟨hG, hS, hV, hR, hu, _⟩ := h
  have hn6 := hV.1
  have hz := GrC_z hG
  have hqn := qr_n (b := b)
  generalize hM0 : uM (uM (uM M 145 5 0) 145 6 0) 145 7 0 = M0
  have m0 : ∀ p, p ≠ 145 → M0 p = M p := fun p hp => by rw [← hM0, uM_ne hp, uM_ne hp, uM_ne hp]
  simp only [s_54_0, s_54_1, s_54_7, s_54_8, s_54_10, s_54_11, s_54_14, s_54_15, s_54_18, s_54_19, s_54_22, s_54_23, s_54_26, s_54_27, s_54_33, s_54_36, s_54_39, s_54_40, s_54_43, s_54_46, true_and, and_true, sc0, sc1, sc2, sc3, sc4, Option.toList, List.cons_append, List.nil_append, clr, ne_eq, not_false_eq_true, not_true_eq_false, false_and, and_false, true_or, or_true, or_false, false_or, forall_const, Nat.reduceEqDiff, List.length_nil, List.length_cons, Nat.zero_le, Nat.reduceAdd, Nat.reduceLeDiff, false_implies, true_implies, Int.reduceEq, Int.reduceNe, Int.reduceLT, Int.reduceLE, Int.reduceNeg, Int.reduceToNat, Int.toNat_natCast, Nat.reduceLT, and_self, Decidable.not_not, kC_0, kC_1, kC_2, kC_3, kC_4, kC_5, kC_6, kC_7, kC_8, kC_9, kC_10, kC_11, kC_12, kC_13, kC_14, kC_15, kC_16, kC_17, kC_18, kC_19, kC_20, kC_21, kC_22, kC_23, kC_24, kC_25, kC_26, kC_27, kC_28, kC_29, kC_30, kC_31, kC_32, kC_145, kC_146, kC_147, kC_148, kC_149, kC_150, kC_151, kC_164, kC_165, kC_166, kC_167, kC_168, kC_169, kC_170, kC_171, kC_172, kC_173, kC_174, kC_175, kC_176, kC_177, kC_178, kC_179, kC_180, kC_181, kC_182, kC_183, kC_184, pC_1_0, pC_1_2, pC_1_3, pC_1_4, pC_1_5, pC_1_6, pC_1_7, pC_1_8, pC_1_9, pC_1_10, pC_1_11, pC_3_5, pC_5_0, pC_5_1, pC_5_2, pC_5_6, pC_5_7, pC_5_8, pC_5_9, pC_5_10, pC_13_0, pC_13_1, pC_13_2, pC_13_6, pC_13_7, pC_13_8, pC_13_9, pC_13_10, pC_21_0, pC_21_1, pC_21_2, pC_21_6, pC_21_7, pC_21_8, pC_21_9, pC_21_10, pC_29_0, pC_29_1, pC_29_2, pC_145_0, pC_145_1, pC_145_2, pC_145_3, pC_145_4, pC_149_0, pC_149_1, pC_149_2, pC_164_1, pC_164_2, pC_164_3, pC_168_0, pC_168_3, pC_168_4, pC_168_5, pC_172_0, pC_175_0, pC_175_2, pC_175_3, pC_175_5, pC_180_0, pC_180_2, pC_180_3, pC_180_5]
  refine s_54_4 (Nat.le_of_ble_eq_true rfl) kC_145 (c_restart d (by omega)) ?_
  rw [hM0]
  simp only [s_54_0, s_54_1, s_54_7, s_54_8, s_54_10, s_54_11, s_54_14, s_54_15, s_54_18, s_54_19, s_54_22, s_54_23, s_54_26, s_54_27, s_54_33, s_54_36, s_54_39, s_54_40, s_54_43, s_54_46, true_and, and_true, sc0, sc1, sc2, sc3, sc4, Option.toList, List.cons_append, List.nil_append, clr, ne_eq, not_false_eq_true, not_true_eq_false, false_and, and_false, true_or, or_true, or_false, false_or, forall_const, Nat.reduceEqDiff, List.length_nil, List.length_cons, Nat.zero_le, Nat.reduceAdd, Nat.reduceLeDiff, false_implies, true_implies, Int.reduceEq, Int.reduceNe, Int.reduceLT, Int.reduceLE, Int.reduceNeg, Int.reduceToNat, Int.toNat_natCast, Nat.reduceLT, and_self, Decidable.not_not, kC_0, kC_1, kC_2, kC_3, kC_4, kC_5, kC_6, kC_7, kC_8, kC_9, kC_10, kC_11, kC_12, kC_13, kC_14, kC_15, kC_16, kC_17, kC_18, kC_19, kC_20, kC_21, kC_22, kC_23, kC_24, kC_25, kC_26, kC_27, kC_28, kC_29, kC_30, kC_31, kC_32, kC_145, kC_146, kC_147, kC_148, kC_149, kC_150, kC_151, kC_164, kC_165, kC_166, kC_167, kC_168, kC_169, kC_170, kC_171, kC_172, kC_173, kC_174, kC_175, kC_176, kC_177, kC_178, kC_179, kC_180, kC_181, kC_182, kC_183, kC_184, pC_1_0, pC_1_2, pC_1_3, pC_1_4, pC_1_5, pC_1_6, pC_1_7, pC_1_8, pC_1_9, pC_1_10, pC_1_11, pC_3_5, pC_5_0, pC_5_1, pC_5_2, pC_5_6, pC_5_7, pC_5_8, pC_5_9, pC_5_10, pC_13_0, pC_13_1, pC_13_2, pC_13_6, pC_13_7, pC_13_8, pC_13_9, pC_13_10, pC_21_0, pC_21_1, pC_21_2, pC_21_6, pC_21_7, pC_21_8, pC_21_9, pC_21_10, pC_29_0, pC_29_1, pC_29_2, pC_145_0, pC_145_1, pC_145_2, pC_145_3, pC_145_4, pC_149_0, pC_149_1, pC_149_2, pC_164_1, pC_164_2, pC_164_3, pC_168_0, pC_168_3, pC_168_4, pC_168_5, pC_172_0, pC_175_0, pC_175_2, pC_175_3, pC_175_5, pC_180_0, pC_180_2, pC_180_3, pC_180_5]
  refine lup (α := MM) (I := fun i K => SnC K 5 (ntI c z n V B u A i) B z n ∧ K 145 5 = (cmN c z n V B u A i : Int) ∧ K 145 6 = (msN c z n V B u A i : Int) ∧ K 145 7 = (opN c z n V B u A i : Int) ∧ ∀ p, p ≠ qr b + 2 → p ≠ 145 → (p < 5 ∨ 13 ≤ p) → (p < 150 ∨ 164 ≤ p) → K p = M p) (G := fun i K => wpB (Ev d) 54 Q X 9 [some (pR 1), some (pI (k : Int)), some (pI (i : Int))] [] (kz LC) (PC b) K) k (fun K hK => ?_) (fun i K hi hK ih => ?_) 0 M0 (Nat.zero_le _) ⟨SnC_same hS (fun p q1 q2 => m0 p (by omega)), by rw [← hM0]; simp [uM_at]; rfl, by rw [← hM0]; simp [uM_at]; rfl, by rw [← hM0]; simp [uM_at]; rfl, fun p _ h2 _ _ => m0 p h2⟩
  · obtain ⟨k1, k2, k3, k4, k5⟩ := hK
    rw [s_54_9]
    simp only [s_54_0, s_54_1, s_54_7, s_54_8, s_54_10, s_54_11, s_54_14, s_54_15, s_54_18, s_54_19, s_54_22, s_54_23, s_54_26, s_54_27, s_54_33, s_54_36, s_54_39, s_54_40, s_54_43, s_54_46, true_and, and_true, sc0, sc1, sc2, sc3, sc4, Option.toList, List.cons_append, List.nil_append, clr, ne_eq, not_false_eq_true, not_true_eq_false, false_and, and_false, true_or, or_true, or_false, false_or, forall_const, Nat.reduceEqDiff, List.length_nil, List.length_cons, Nat.zero_le, Nat.reduceAdd, Nat.reduceLeDiff, false_implies, true_implies, Int.reduceEq, Int.reduceNe, Int.reduceLT, Int.reduceLE, Int.reduceNeg, Int.reduceToNat, Int.toNat_natCast, Nat.reduceLT, and_self, Decidable.not_not, kC_0, kC_1, kC_2, kC_3, kC_4, kC_5, kC_6, kC_7, kC_8, kC_9, kC_10, kC_11, kC_12, kC_13, kC_14, kC_15, kC_16, kC_17, kC_18, kC_19, kC_20, kC_21, kC_22, kC_23, kC_24, kC_25, kC_26, kC_27, kC_28, kC_29, kC_30, kC_31, kC_32, kC_145, kC_146, kC_147, kC_148, kC_149, kC_150, kC_151, kC_164, kC_165, kC_166, kC_167, kC_168, kC_169, kC_170, kC_171, kC_172, kC_173, kC_174, kC_175, kC_176, kC_177, kC_178, kC_179, kC_180, kC_181, kC_182, kC_183, kC_184, pC_1_0, pC_1_2, pC_1_3, pC_1_4, pC_1_5, pC_1_6, pC_1_7, pC_1_8, pC_1_9, pC_1_10, pC_1_11, pC_3_5, pC_5_0, pC_5_1, pC_5_2, pC_5_6, pC_5_7, pC_5_8, pC_5_9, pC_5_10, pC_13_0, pC_13_1, pC_13_2, pC_13_6, pC_13_7, pC_13_8, pC_13_9, pC_13_10, pC_21_0, pC_21_1, pC_21_2, pC_21_6, pC_21_7, pC_21_8, pC_21_9, pC_21_10, pC_29_0, pC_29_1, pC_29_2, pC_145_0, pC_145_1, pC_145_2, pC_145_3, pC_145_4, pC_149_0, pC_149_1, pC_149_2, pC_164_1, pC_164_2, pC_164_3, pC_168_0, pC_168_3, pC_168_4, pC_168_5, pC_172_0, pC_175_0, pC_175_2, pC_175_3, pC_175_5, pC_180_0, pC_180_2, pC_180_3, pC_180_5, Int.le_refl, k2]
    exact hQ _ _ _ ⟨rfl, rfl, k1, k3, k4, k5⟩
  · obtain ⟨k1, k2, k3, k4, k5⟩ := hK
    have e0 : ¬ (k : Int) ≤ (i : Int) := by omega
    have en := EqW_i (w32n (show i < 1000000 by omega))
    have hGK : GrC K r c z := GrC_cg hG (k5 3 (by omega) (by omega) (by omega) (by omega)) (k5 4 (by omega) (by omega) (by omega) (by omega))
    have hRK : RuV K (qr b) V := RuV_same hR (k5 _ (by omega) (by omega) (by omega) (by omega)) (k5 _ (by omega) (by omega) (by omega) (by omega))
    have hVK : SnV (ntI c z n V B u A i) B z n := SnV_ntI hV hz.2 i
    have k14 : K 1 14 = u := by rw [k5 1 (by omega) (by omega) (by omega) (by omega)]; exact hu
    obtain ⟨v, P', J, hE, rfl, rfl, j1, j2, j3, j4, j5⟩ := c_pass (b := b) (u := u) qr_q now_st hGK k1 hVK hRK d (by omega)
    have b1 := cmN_le (c := c) (z := z) (n := n) (V := V) (B := B) (u := u) (A := A) i
    have b2 := msN_le (c := c) (z := z) (n := n) (V := V) (B := B) (u := u) (A := A) i
    have b3 := opN_le (c := c) (z := z) (n := n) (V := V) (B := B) (u := u) (A := A) i
    have b4 : n * i ≤ 6 * 99 := Nat.mul_le_mul hn6 (by omega)
    have b5 : z * i ≤ 36 * 99 := Nat.mul_le_mul hz.2 (by omega)
    have c1 := cnt_le (fun g => decide (hpS c z V (ntI c z n V B u A i) B g)) n
    have c2 := cnt_le (fun g => !decide (hpS c z V (ntI c z n V B u A i) B g)) n
    have c3 := cnt_le (opS c z n V (ntI c z n V B u A i) B u) z
    rw [k2, inc_n (by omega)] at j2
    rw [k3, inc_n (by omega)] at j3
    rw [k4, inc_n (by omega)] at j4
    rw [s_54_9]
    simp only [s_54_0, s_54_1, s_54_7, s_54_8, s_54_10, s_54_11, s_54_14, s_54_15, s_54_18, s_54_19, s_54_22, s_54_23, s_54_26, s_54_27, s_54_33, s_54_36, s_54_39, s_54_40, s_54_43, s_54_46, true_and, and_true, sc0, sc1, sc2, sc3, sc4, Option.toList, List.cons_append, List.nil_append, clr, ne_eq, not_false_eq_true, not_true_eq_false, false_and, and_false, true_or, or_true, or_false, false_or, forall_const, Nat.reduceEqDiff, List.length_nil, List.length_cons, Nat.zero_le, Nat.reduceAdd, Nat.reduceLeDiff, false_implies, true_implies, Int.reduceEq, Int.reduceNe, Int.reduceLT, Int.reduceLE, Int.reduceNeg, Int.reduceToNat, Int.toNat_natCast, Nat.reduceLT, and_self, Decidable.not_not, kC_0, kC_1, kC_2, kC_3, kC_4, kC_5, kC_6, kC_7, kC_8, kC_9, kC_10, kC_11, kC_12, kC_13, kC_14, kC_15, kC_16, kC_17, kC_18, kC_19, kC_20, kC_21, kC_22, kC_23, kC_24, kC_25, kC_26, kC_27, kC_28, kC_29, kC_30, kC_31, kC_32, kC_145, kC_146, kC_147, kC_148, kC_149, kC_150, kC_151, kC_164, kC_165, kC_166, kC_167, kC_168, kC_169, kC_170, kC_171, kC_172, kC_173, kC_174, kC_175, kC_176, kC_177, kC_178, kC_179, kC_180, kC_181, kC_182, kC_183, kC_184, pC_1_0, pC_1_2, pC_1_3, pC_1_4, pC_1_5, pC_1_6, pC_1_7, pC_1_8, pC_1_9, pC_1_10, pC_1_11, pC_3_5, pC_5_0, pC_5_1, pC_5_2, pC_5_6, pC_5_7, pC_5_8, pC_5_9, pC_5_10, pC_13_0, pC_13_1, pC_13_2, pC_13_6, pC_13_7, pC_13_8, pC_13_9, pC_13_10, pC_21_0, pC_21_1, pC_21_2, pC_21_6, pC_21_7, pC_21_8, pC_21_9, pC_21_10, pC_29_0, pC_29_1, pC_29_2, pC_145_0, pC_145_1, pC_145_2, pC_145_3, pC_145_4, pC_149_0, pC_149_1, pC_149_2, pC_164_1, pC_164_2, pC_164_3, pC_168_0, pC_168_3, pC_168_4, pC_168_5, pC_172_0, pC_175_0, pC_175_2, pC_175_3, pC_175_5, pC_180_0, pC_180_2, pC_180_3, pC_180_5, e0, qr_p, qr_0, k14]
    refine s_54_30 (Nat.le_of_ble_eq_true rfl) kC_145 hE ?_
    simp only [s_54_0, s_54_1, s_54_7, s_54_8, s_54_10, s_54_11, s_54_14, s_54_15, s_54_18, s_54_19, s_54_22, s_54_23, s_54_26, s_54_27, s_54_33, s_54_36, s_54_39, s_54_40, s_54_43, s_54_46, true_and, and_true, sc0, sc1, sc2, sc3, sc4, Option.toList, List.cons_append, List.nil_append, clr, ne_eq, not_false_eq_true, not_true_eq_false, false_and, and_false, true_or, or_true, or_false, false_or, forall_const, Nat.reduceEqDiff, List.length_nil, List.length_cons, Nat.zero_le, Nat.reduceAdd, Nat.reduceLeDiff, false_implies, true_implies, Int.reduceEq, Int.reduceNe, Int.reduceLT, Int.reduceLE, Int.reduceNeg, Int.reduceToNat, Int.toNat_natCast, Nat.reduceLT, and_self, Decidable.not_not, kC_0, kC_1, kC_2, kC_3, kC_4, kC_5, kC_6, kC_7, kC_8, kC_9, kC_10, kC_11, kC_12, kC_13, kC_14, kC_15, kC_16, kC_17, kC_18, kC_19, kC_20, kC_21, kC_22, kC_23, kC_24, kC_25, kC_26, kC_27, kC_28, kC_29, kC_30, kC_31, kC_32, kC_145, kC_146, kC_147, kC_148, kC_149, kC_150, kC_151, kC_164, kC_165, kC_166, kC_167, kC_168, kC_169, kC_170, kC_171, kC_172, kC_173, kC_174, kC_175, kC_176, kC_177, kC_178, kC_179, kC_180, kC_181, kC_182, kC_183, kC_184, pC_1_0, pC_1_2, pC_1_3, pC_1_4, pC_1_5, pC_1_6, pC_1_7, pC_1_8, pC_1_9, pC_1_10, pC_1_11, pC_3_5, pC_5_0, pC_5_1, pC_5_2, pC_5_6, pC_5_7, pC_5_8, pC_5_9, pC_5_10, pC_13_0, pC_13_1, pC_13_2, pC_13_6, pC_13_7, pC_13_8, pC_13_9, pC_13_10, pC_21_0, pC_21_1, pC_21_2, pC_21_6, pC_21_7, pC_21_8, pC_21_9, pC_21_10, pC_29_0, pC_29_1, pC_29_2, pC_145_0, pC_145_1, pC_145_2, pC_145_3, pC_145_4, pC_149_0, pC_149_1, pC_149_2, pC_164_1, pC_164_2, pC_164_3, pC_168_0, pC_168_3, pC_168_4, pC_168_5, pC_172_0, pC_175_0, pC_175_2, pC_175_3, pC_175_5, pC_180_0, pC_180_2, pC_180_3, pC_180_5, (EqW_o en)]
    refine ih J ⟨j1, ?_, ?_, ?_, fun p h1 h2 h3 h4 => by rw [j5 p h1 h2 (by omega) h4]; exact k5 p h1 h2 h3 h4⟩
    · rw [j2]; exact (Int.natCast_add _ _).symm
    · rw [j3]; exact (Int.natCast_add _ _).symm
    · rw [j4]; exact (Int.natCast_add _ _).symm
end
section
variable {M : MM} {rd ru r c z n : Nat} {A B : Nat → Int} {V : GV} {u : Int}
theorem r_goNights {k : Nat} (h : WdR M ru r c z n A B V u) (hk : k ≤ 99) : Cw 185 204 [pR 1, pR 2, pI (k : Int)] LR (PR rd ru) M (fun v P' M' => (∃ rd', P' = PR rd' ru) ∧ v = some (pI (cmN c z n V B u A k : Int)) ∧ ArR M' 2 (ntI c z n V B u A k) ∧ Fr (31 :: 32 :: SPl) (16 :: 2 :: TPl) M M' ∧ M' 1 31 = (msN c z n V B u A k : Int) ∧ M' 1 32 = (opN c z n V B u A k : Int)) := by
  refine Cw_k [some (pR 1), some (pR 2), some (pI (k : Int)), none, none] (Nat.le_of_ble_eq_true rfl) rfl (fun d hd Q X hQ => ?_)
  obtain ⟨hE, hA, hV, hu, _⟩ := h
  have hn6 := hV.1
  have hz := EnR_z hE
  have hru := EnR_ru hE
  generalize hM0 : uM (uM M 1 31 0) 1 32 0 = M0
  have hF0 : Fr (31 :: 32 :: SPl) (16 :: 2 :: TPl) M M0 := by rw [← hM0]; exact Fr_1 (Fr_1 Fr_refl (by simp)) (by simp)
  simp only [s_204_0, s_204_1, s_204_2, s_204_3, s_204_4, s_204_7, s_204_8, s_204_9, s_204_12, s_204_13, s_204_17, s_204_18, s_204_21, s_204_22, s_204_23, s_204_27, s_204_28, s_204_29, s_204_32, s_204_35, s_204_36, true_and, and_true, sc0, sc1, sc2, sc3, sc4, Option.toList, List.cons_append, List.nil_append, clr, ne_eq, not_false_eq_true, not_true_eq_false, false_and, and_false, true_or, or_true, or_false, false_or, forall_const, Nat.reduceEqDiff, List.length_nil, List.length_cons, Nat.zero_le, Nat.reduceAdd, Nat.reduceLeDiff, false_implies, true_implies, Int.reduceEq, Int.reduceNe, Int.reduceLT, Int.reduceLE, Int.reduceNeg, Int.reduceToNat, Int.toNat_natCast, Nat.reduceLT, and_self, Decidable.not_not, kR_1, kR_2, kR_3, kR_4, kR_5, kR_6, kR_7, kR_8, kR_9, kR_10, kR_11, kR_12, kR_13, kR_14, kR_15, kR_16, kR_17, kR_18, kR_19, kR_20, kR_21, kR_22, kR_23, pR_0, pR_5, pR_6, pR_8, pR_11, pR_16, pR_17, pR_18, pR_21, pR_22, pR_23, pR_24, pR_26, pR_28, pR_29, pR_30, pR_33, pR_34, pR_35, pR_38, pR_41, pR_42, pR_43, hM0]
  refine lup (α := Nat × MM) (I := fun i y => ArR y.2 2 (ntI c z n V B u A i) ∧ Fr (31 :: 32 :: SPl) (16 :: 2 :: TPl) M y.2 ∧ y.2 1 31 = (msN c z n V B u A i : Int) ∧ y.2 1 32 = (opN c z n V B u A i : Int)) (G := fun i y => wpB (Ev d) 204 Q X 15 [some (pR 1), some (pR 2), some (pI (k : Int)), some (pI (cmN c z n V B u A i : Int)), some (pI (i : Int))] [] (kz LR) (PR y.1 ru) y.2) k (fun y hy => ?_) (fun i y hi hy ih => ?_) 0 (rd, M0) (Nat.zero_le _) ⟨fun j hj => by dsimp only; rw [← hM0, uM_ne (by decide), uM_ne (by decide)]; exact hA j hj, hF0, by dsimp only; rw [← hM0]; simp [uM_at]; rfl, by dsimp only; rw [← hM0]; simp [uM_at]; rfl⟩
  · obtain ⟨rd1, K⟩ := y
    dsimp only at hy ⊢
    rw [s_204_15]
    simp only [s_204_0, s_204_1, s_204_2, s_204_3, s_204_4, s_204_7, s_204_8, s_204_9, s_204_12, s_204_13, s_204_17, s_204_18, s_204_21, s_204_22, s_204_23, s_204_27, s_204_28, s_204_29, s_204_32, s_204_35, s_204_36, true_and, and_true, sc0, sc1, sc2, sc3, sc4, Option.toList, List.cons_append, List.nil_append, clr, ne_eq, not_false_eq_true, not_true_eq_false, false_and, and_false, true_or, or_true, or_false, false_or, forall_const, Nat.reduceEqDiff, List.length_nil, List.length_cons, Nat.zero_le, Nat.reduceAdd, Nat.reduceLeDiff, false_implies, true_implies, Int.reduceEq, Int.reduceNe, Int.reduceLT, Int.reduceLE, Int.reduceNeg, Int.reduceToNat, Int.toNat_natCast, Nat.reduceLT, and_self, Decidable.not_not, kR_1, kR_2, kR_3, kR_4, kR_5, kR_6, kR_7, kR_8, kR_9, kR_10, kR_11, kR_12, kR_13, kR_14, kR_15, kR_16, kR_17, kR_18, kR_19, kR_20, kR_21, kR_22, kR_23, pR_0, pR_5, pR_6, pR_8, pR_11, pR_16, pR_17, pR_18, pR_21, pR_22, pR_23, pR_24, pR_26, pR_28, pR_29, pR_30, pR_33, pR_34, pR_35, pR_38, pR_41, pR_42, pR_43, Int.le_refl]
    exact hQ _ _ _ ⟨⟨rd1, rfl⟩, rfl, hy.1, hy.2.1, hy.2.2.1, hy.2.2.2⟩
  · obtain ⟨rd1, K⟩ := y
    dsimp only at hy ⊢
    obtain ⟨a1, a2, a3, a4⟩ := hy
    have e0 : ¬ (k : Int) ≤ (i : Int) := by omega
    have en := EqW_i (w32n (show i < 1000000 by omega))
    have hEK : EnR K ru r c n z B V := EnR_fr hE a2 (by decide) ⟨by decide, by simp [TPl]; omega⟩
    have hVK : SnV (ntI c z n V B u A i) B z n := SnV_ntI hV hz.2 i
    have k4 : K 1 4 = u := by rw [a2.1 4 (by decide)]; exact hu
    obtain ⟨v, P', J, hE1, ⟨rd2, rfl⟩, rfl, j1, j2, j3, j4⟩ := r_goNight (rd := rd1) (x := 2) hEK (Or.inl rfl) a1 hVK k4 d (by omega)
    have b1 := cmN_le (c := c) (z := z) (n := n) (V := V) (B := B) (u := u) (A := A) i
    have b2 := msN_le (c := c) (z := z) (n := n) (V := V) (B := B) (u := u) (A := A) i
    have b3 := opN_le (c := c) (z := z) (n := n) (V := V) (B := B) (u := u) (A := A) i
    have b4 : n * i ≤ 6 * 99 := Nat.mul_le_mul hn6 (by omega)
    have b5 : z * i ≤ 36 * 99 := Nat.mul_le_mul hz.2 (by omega)
    have c1 := cnt_le (fun g => decide (hpS c z V (ntI c z n V B u A i) B g)) n
    have c3 := cnt_le (opS c z n V (ntI c z n V B u A i) B u) z
    have cn := cnt_n (p := fun g => decide (hpS c z V (ntI c z n V B u A i) B g)) n
    have hms : msN c z n V B u A (i + 1) = msN c z n V B u A i + cnt (fun g => !decide (hpS c z V (ntI c z n V B u A i) B g)) n := rfl
    have hcm : cmN c z n V B u A (i + 1) = cmN c z n V B u A i + cnt (fun g => decide (hpS c z V (ntI c z n V B u A i) B g)) n := rfl
    have hop : opN c z n V B u A (i + 1) = opN c z n V B u A i + cnt (opS c z n V (ntI c z n V B u A i) B u) z := rfl
    rw [a4, inc_n (by omega)] at j4
    rw [a3] at j3
    have es := EqW_i (show w32 ((cmN c z n V B u A i : Int) + (cnt (fun g => decide (hpS c z V (ntI c z n V B u A i) B g)) n : Int)) = (cmN c z n V B u A (i + 1) : Int) by rw [hcm, Int.natCast_add]; exact w32s (by omega))
    rw [s_204_15]
    simp only [s_204_0, s_204_1, s_204_2, s_204_3, s_204_4, s_204_7, s_204_8, s_204_9, s_204_12, s_204_13, s_204_17, s_204_18, s_204_21, s_204_22, s_204_23, s_204_27, s_204_28, s_204_29, s_204_32, s_204_35, s_204_36, true_and, and_true, sc0, sc1, sc2, sc3, sc4, Option.toList, List.cons_append, List.nil_append, clr, ne_eq, not_false_eq_true, not_true_eq_false, false_and, and_false, true_or, or_true, or_false, false_or, forall_const, Nat.reduceEqDiff, List.length_nil, List.length_cons, Nat.zero_le, Nat.reduceAdd, Nat.reduceLeDiff, false_implies, true_implies, Int.reduceEq, Int.reduceNe, Int.reduceLT, Int.reduceLE, Int.reduceNeg, Int.reduceToNat, Int.toNat_natCast, Nat.reduceLT, and_self, Decidable.not_not, kR_1, kR_2, kR_3, kR_4, kR_5, kR_6, kR_7, kR_8, kR_9, kR_10, kR_11, kR_12, kR_13, kR_14, kR_15, kR_16, kR_17, kR_18, kR_19, kR_20, kR_21, kR_22, kR_23, pR_0, pR_5, pR_6, pR_8, pR_11, pR_16, pR_17, pR_18, pR_21, pR_22, pR_23, pR_24, pR_26, pR_28, pR_29, pR_30, pR_33, pR_34, pR_35, pR_38, pR_41, pR_42, pR_43, e0]
    refine s_204_24 (Nat.le_of_ble_eq_true rfl) kR_1 hE1 ?_
    simp only [s_204_0, s_204_1, s_204_2, s_204_3, s_204_4, s_204_7, s_204_8, s_204_9, s_204_12, s_204_13, s_204_17, s_204_18, s_204_21, s_204_22, s_204_23, s_204_27, s_204_28, s_204_29, s_204_32, s_204_35, s_204_36, true_and, and_true, sc0, sc1, sc2, sc3, sc4, Option.toList, List.cons_append, List.nil_append, clr, ne_eq, not_false_eq_true, not_true_eq_false, false_and, and_false, true_or, or_true, or_false, false_or, forall_const, Nat.reduceEqDiff, List.length_nil, List.length_cons, Nat.zero_le, Nat.reduceAdd, Nat.reduceLeDiff, false_implies, true_implies, Int.reduceEq, Int.reduceNe, Int.reduceLT, Int.reduceLE, Int.reduceNeg, Int.reduceToNat, Int.toNat_natCast, Nat.reduceLT, and_self, Decidable.not_not, kR_1, kR_2, kR_3, kR_4, kR_5, kR_6, kR_7, kR_8, kR_9, kR_10, kR_11, kR_12, kR_13, kR_14, kR_15, kR_16, kR_17, kR_18, kR_19, kR_20, kR_21, kR_22, kR_23, pR_0, pR_5, pR_6, pR_8, pR_11, pR_16, pR_17, pR_18, pR_21, pR_22, pR_23, pR_24, pR_26, pR_28, pR_29, pR_30, pR_33, pR_34, pR_35, pR_38, pR_41, pR_42, pR_43, EqW_o es, EqW_o en]
    refine ih (rd2, J) ⟨j2, Fr_trans a2 j1, ?_, ?_⟩
    · dsimp only
      rw [j3, hms]
      rw [w32s (by omega)]
      omega
    · dsimp only
      rw [j4, hop, Int.natCast_add]
end
section
variable {M M' N N' : MM} {b : Bool} {t r c z n : Nat} {A A' B : Nat → Int} {V V' : GV} {u : Int} {U U' : List (Nat → Int)} {K K' : Nat → Option (Nat → Int)} {m : Nat} {F : Nat → Nat} {I : Nat → Bool} {T : Nat → Int} {ln : Nat} {R R' : List Int}
theorem RelC_mk (h : RelC M b r c z n A B V u U K m F I T ln R) (hS : SnC M' 5 A' B z n) (hV : SnO B z n A') (hU : UnC M' U' B z n) (hK : KpC M' K' B z n) (hT : ToC M' R') (hs : ∀ p, p < 5 ∨ p = 174 ∨ p = qr b ∨ p = qr b + 1 → M' p = M p) : RelC M' b r c z n A' B V u U' K' m F I T ln R' := by
  obtain ⟨⟨w1, w2, w3, w4, w5, w6, w7, w8⟩, a2, a3, a4, a5, a6, a7, a8⟩ := h
  refine ⟨⟨GrC_cg w1 (hs 3 (by omega)) (hs 4 (by omega)), hS, hV.1, RuV_same w4 (hs _ (by omega)) (hs _ (by omega)), by rw [hs 1 (by omega)]; exact w5, w6, w7, hV.2⟩, hU, hK, ?_, TxC_sm a5 (by rw [hs 1 (by omega)]) (hs 2 (by omega)), hT, by rw [hs 0 (by omega)]; exact a7, by rw [hs 174 (by omega)]; exact a8⟩
  unfold PrC at a4 ⊢
  rw [hs 1 (by omega)]; exact a4
theorem RelR_mk {S S' : List Nat} (h : RelR N t r c z n A B V u U K m F I T ln R) (hA : ArR N' 2 A') (hV : SnO B z n A') (hU : UnR N' U') (hK : KpR N' K' (t + 1)) (hT : ToR N' R') (hf : Fr S S' N N') (hS : ∀ k, k ∈ [1, 2, 3, 4, 7, 19, 36, 37] → k ∉ S) (hS' : ∀ k, k ∈ [3, 4, 7, 19] → k ∉ S') : RelR N' (t + 1) r c z n A' B V u U' K' m F I T ln R' := by
  obtain ⟨⟨v1, v2, v3, v4, v5, v6, v7⟩, b2, b3, b4, b5, b6⟩ := h
  refine ⟨⟨EnR_fr v1 hf ⟨hS 1 (by decide), hS 2 (by decide), hS 3 (by decide), hS 19 (by decide)⟩ ⟨hS' 3 (by decide), hS' 7 (by decide)⟩, hA, hV.1, by rw [hf.1 4 (hS 4 (by decide))]; exact v4, v5, v6, hV.2⟩, hU, hK, ?_, TxR_fr b5 hf (hS 7 (by decide)) (hS' 4 (by decide)), hT⟩
  unfold PrR at b4 ⊢
  rw [hf.1 37 (hS 37 (by decide)), hf.1 36 (hS 36 (by decide)), hf.2 19 (by decide) (hS' 19 (by decide))]; exact b4
end
