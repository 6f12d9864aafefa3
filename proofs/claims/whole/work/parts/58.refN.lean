/-! the reference: paths, who goes over a field, who is blocked, a night -/
def SPl : List Nat := [12, 13, 14, 15, 20, 25]
def TPl : List Nat := [9, 10, 11, 12]
/-- what paths rest on -/
def EnR (M : MM) (ru r c n z : Nat) (B : Nat → Int) (V : GV) : Prop := RD M r c n ∧ z = r * c ∧ (∀ g, g < n → M 3 g = B g) ∧ RuR M ru V
theorem EnR_fr {M M' : MM} {ru r c n z : Nat} {B : Nat → Int} {V : GV} {S T : List Nat} (h : EnR M ru r c n z B V) (hf : Fr S T M M') (hS : 1 ∉ S ∧ 2 ∉ S ∧ 3 ∉ S ∧ 19 ∉ S) (hT : 3 ∉ T ∧ ru ∉ T) : EnR M' ru r c n z B V := by
  obtain ⟨h1, h2, h3, h4⟩ := h
  exact ⟨RD_fr h1 hf ⟨hS.1, hS.2.1, hS.2.2.1⟩, h2, fun g hg => by rw [hf.2 3 (by decide) hT.1]; exact h3 g hg, RuR_fr h4 hf hS.2.2.2 hT.2⟩
theorem EnR_ru {M : MM} {ru r c n z : Nat} {B : Nat → Int} {V : GV} (h : EnR M ru r c n z B V) : ru = 7 ∨ ru = 8 := h.2.2.2.1
theorem EnR_z {M : MM} {ru r c n z : Nat} {B : Nat → Int} {V : GV} (h : EnR M ru r c n z B V) : 1 ≤ z ∧ z ≤ 36 := by have := RD_36 h.1; have := h.2.1; omega
theorem EnR_L {M : MM} {ru r c n z : Nat} {B : Nat → Int} {V : GV} (h : EnR M ru r c n z B V) : Lnd c z := ⟨h.1.2.2.2.2.2.1, h.1.2.2.2.2.2.2.1, (EnR_z h).2, r, h.1.2.2.2.1, h.1.2.2.2.2.1, h.2.1⟩
theorem ArR_fr {M M' : MM} {x : Nat} {A : Nat → Int} {S T : List Nat} (h : ArR M x A) (hf : Fr S T M M') (hx : x ≠ 1) (hT : x ∉ T) : ArR M' x A := fun j hj => by rw [hf.2 x hx hT]; exact h j hj
theorem isN_1 {x : Nat} (h : isN x) : x ≠ 1 ∧ x ∉ TPl ∧ x ≠ 16 ∧ x ≠ 3 ∧ x ≠ 7 ∧ x ≠ 8 ∧ x ≠ 0 ∧ x ≠ 5 := by rcases h with rfl | rfl | rfl <;> decide
section
variable {M : MM} {rd ru r c n x z : Nat} {A B : Nat → Int} {V : GV}
theorem r_pathOf {i : Nat} (hE : EnR M ru r c n z B V) (hx : isN x) (hA : ArR M x A) (hV : SnV A B z n) (hi : i < n) : Cw 183 189 [pR 1, pR x, pI (i : Int)] LR (PR rd ru) M (fun v P' M' => (∃ rd', P' = PR rd' ru) ∧ v = some (pI (vS c z V A B i)) ∧ Fr SPl TPl M M' ∧ M' 1 25 = (nS c z V A B i : Int) ∧ ∀ k, k < nS c z V A B i → M' 12 k = (wS c z V A B i k : Int)) := by
  refine Cw_k [some (pR 1), some (pR x), some (pI (i : Int))] (Nat.le_of_ble_eq_true rfl) rfl (fun d hd Q X hQ => ?_)
  have hn6 := hV.1
  have hz := EnR_z hE
  have hx1 := isN_1 hx
  have kx := isN_k hx
  obtain ⟨v, P', N, hE1, ⟨rd1, rfl⟩, rfl, hF1, hN⟩ := r_layHardness (rd := rd) hE.1 hE.2.1 hE.2.2.2 hx hA hV hi d (by omega)
  obtain ⟨vs, vt, _, _, _⟩ := hV.2.2.1 i hi
  obtain ⟨s, hs⟩ : ∃ s : Nat, B i = (s : Int) := ⟨(B i).toNat, by omega⟩
  obtain ⟨t, ht⟩ : ∃ s : Nat, A (108 + i) = (s : Int) := ⟨(A (108 + i)).toNat, by omega⟩
  have hru := EnR_ru hE
  have hEN : EnR N ru r c n z B V := EnR_fr hE hF1 (by decide) ⟨by decide, by simp; omega⟩
  have e3 : N 3 i = (s : Int) := by rw [hEN.2.2.1 i hi, hs]
  have eA : N x (108 + i) = (t : Int) := by rw [hF1.2 x hx1.1 (by have := hx1.2.1; simp [TPl] at this; simp; omega), hA (108 + i) (by omega), ht]
  obtain ⟨v, P', K, hE2, rfl, rfl, hF2, k1, k2⟩ := r_layWay (rd := rd1) (ru := ru) (s := s) (t := t) hEN.1 hEN.2.1 hN hF_H (by omega) (by omega) d (by omega)
  have q1 : EqW (w32 (108 + (i : Int))) (((108 + i : Nat) : Int)) := EqW_i <| by unfold w32; omega
  have b0 : (0 : Int) ≤ (i : Int) := by omega
  have b1 : (i : Int) < ((6 : Nat) : Int) := by omega
  have b2 : (0 : Int) ≤ ((108 + i : Nat) : Int) := by omega
  have b3 : ((108 + i : Nat) : Int) < ((133 : Nat) : Int) := by omega
  simp only [s_189_0, s_189_1, s_189_2, s_189_6, s_189_7, s_189_8, s_189_11, s_189_12, s_189_13, s_189_14, s_189_16, s_189_17, s_189_18, s_189_22, true_and, and_true, sc0, sc1, sc2, sc3, sc4, Option.toList, List.cons_append, List.nil_append, clr, ne_eq, not_false_eq_true, not_true_eq_false, false_and, and_false, true_or, or_true, or_false, false_or, forall_const, Nat.reduceEqDiff, List.length_nil, List.length_cons, Nat.zero_le, Nat.reduceAdd, Nat.reduceLeDiff, false_implies, true_implies, Int.reduceEq, Int.reduceNe, Int.reduceLT, Int.reduceLE, Int.reduceNeg, Int.reduceToNat, Int.toNat_natCast, Nat.reduceLT, and_self, Decidable.not_not, kR_1, kR_2, kR_3, kR_4, kR_5, kR_6, kR_7, kR_8, kR_9, kR_10, kR_11, kR_12, kR_13, kR_14, kR_15, kR_16, kR_17, kR_18, kR_19, kR_20, kR_21, kR_22, kR_23, pR_0, pR_5, pR_6, pR_8, pR_11, pR_16, pR_17, pR_18, pR_21, pR_22, pR_23, pR_24, pR_26, pR_28, pR_29, pR_30, pR_33, pR_34, pR_35, pR_38, pR_41, pR_42, pR_43]
  refine s_189_3 (Nat.le_of_ble_eq_true rfl) kR_1 hE1 ?_
  simp only [s_189_0, s_189_1, s_189_2, s_189_6, s_189_7, s_189_8, s_189_11, s_189_12, s_189_13, s_189_14, s_189_16, s_189_17, s_189_18, s_189_22, true_and, and_true, sc0, sc1, sc2, sc3, sc4, Option.toList, List.cons_append, List.nil_append, clr, ne_eq, not_false_eq_true, not_true_eq_false, false_and, and_false, true_or, or_true, or_false, false_or, forall_const, Nat.reduceEqDiff, List.length_nil, List.length_cons, Nat.zero_le, Nat.reduceAdd, Nat.reduceLeDiff, false_implies, true_implies, Int.reduceEq, Int.reduceNe, Int.reduceLT, Int.reduceLE, Int.reduceNeg, Int.reduceToNat, Int.toNat_natCast, Nat.reduceLT, and_self, Decidable.not_not, kR_1, kR_2, kR_3, kR_4, kR_5, kR_6, kR_7, kR_8, kR_9, kR_10, kR_11, kR_12, kR_13, kR_14, kR_15, kR_16, kR_17, kR_18, kR_19, kR_20, kR_21, kR_22, kR_23, pR_0, pR_5, pR_6, pR_8, pR_11, pR_16, pR_17, pR_18, pR_21, pR_22, pR_23, pR_24, pR_26, pR_28, pR_29, pR_30, pR_33, pR_34, pR_35, pR_38, pR_41, pR_42, pR_43, b0, b1, b2, b3, e3, eA, kx, (EqW_o q1)]
  refine s_189_19 (Nat.le_of_ble_eq_true rfl) kR_1 hE2 ?_
  simp only [s_189_0, s_189_1, s_189_2, s_189_6, s_189_7, s_189_8, s_189_11, s_189_12, s_189_13, s_189_14, s_189_16, s_189_17, s_189_18, s_189_22, true_and, and_true, sc0, sc1, sc2, sc3, sc4, Option.toList, List.cons_append, List.nil_append, clr, ne_eq, not_false_eq_true, not_true_eq_false, false_and, and_false, true_or, or_true, or_false, false_or, forall_const, Nat.reduceEqDiff, List.length_nil, List.length_cons, Nat.zero_le, Nat.reduceAdd, Nat.reduceLeDiff, false_implies, true_implies, Int.reduceEq, Int.reduceNe, Int.reduceLT, Int.reduceLE, Int.reduceNeg, Int.reduceToNat, Int.toNat_natCast, Nat.reduceLT, and_self, Decidable.not_not, kR_1, kR_2, kR_3, kR_4, kR_5, kR_6, kR_7, kR_8, kR_9, kR_10, kR_11, kR_12, kR_13, kR_14, kR_15, kR_16, kR_17, kR_18, kR_19, kR_20, kR_21, kR_22, kR_23, pR_0, pR_5, pR_6, pR_8, pR_11, pR_16, pR_17, pR_18, pR_21, pR_22, pR_23, pR_24, pR_26, pR_28, pR_29, pR_30, pR_33, pR_34, pR_35, pR_38, pR_41, pR_42, pR_43]
  have es : (B i).toNat = s := by rw [hs, Int.toNat_natCast]
  have et : (A (108 + i)).toNat = t := by rw [ht, Int.toNat_natCast]
  refine hQ _ _ _ ⟨⟨rd1, rfl⟩, ?_, Fr_trans (Fr_mono hF1 (by simp [SPl]) (by simp [TPl])) (Fr_mono hF2 (by simp [SPl]) (by simp [TPl])), ?_, ?_⟩
  · show _ = some (pI (pV c z (hF V A i) (B i).toNat (A (108 + i)).toNat)); rw [es, et]
  · show _ = (pN c z (hF V A i) (B i).toNat (A (108 + i)).toNat : Int); rw [es, et]; exact k1
  · show ∀ k, k < pN c z (hF V A i) (B i).toNat (A (108 + i)).toNat → K 12 k = (pW c z (hF V A i) (B i).toNat (A (108 + i)).toNat k : Int); rw [es, et]; exact k2
theorem vS_neg (hL : Lnd c z) (hV : SnV A B z n) {i : Nat} (hi : i < n) : vS c z V A B i < 0 ↔ ¬ hpS c z V A B i := pV_neg hL hF_H (by have := (hV.2.2.1 i hi).1; omega)
theorem nS_le (hL : Lnd c z) (hV : SnV A B z n) {i : Nat} (hi : i < n) : nS c z V A B i ≤ z := pN_le hL hF_H (by have := (hV.2.2.1 i hi).1; omega)
theorem onS_no {i f : Nat} (h : ¬ hpS c z V A B i) : onS c z V A B i f = false := by
  have h0 : nS c z V A B i = 0 := pN_0.mpr h
  unfold onS onW
  rw [show pN c z (hF V A i) (B i).toNat (A (108 + i)).toNat = 0 from h0]
  simp
theorem onS_w {N : MM} {i f : Nat} (h : ∀ k, k < nS c z V A B i → N 12 k = (wS c z V A B i k : Int)) : (∃ k, k < nS c z V A B i ∧ N 12 k = (f : Int)) ↔ onS c z V A B i f = true := by
  unfold onS onW
  rw [decide_eq_true_iff]
  constructor
  · rintro ⟨k, h1, h2⟩
    rw [h k h1] at h2
    exact ⟨k, h1, Int.ofNat_inj.mp h2⟩
  · rintro ⟨k, h1, h2⟩
    exact ⟨k, h1, by rw [h k h1]; exact congrArg Int.ofNat h2⟩
theorem r_over {f : Nat} (hE : EnR M ru r c n z B V) (hx : isN x) (hA : ArR M x A) (hV : SnV A B z n) (hf : f < z) : Cw 184 188 [pR 1, pR x, pI (f : Int)] LR (PR rd ru) M (fun v P' M' => (∃ rd', P' = PR rd' ru) ∧ v = some (pI ((bs (fun g => onS c z V A B g f) n : Nat) : Int)) ∧ Fr SPl TPl M M') := by
  refine Cw_k [some (pR 1), some (pR x), some (pI (f : Int)), none, none] (Nat.le_of_ble_eq_true rfl) rfl (fun d hd Q X hQ => ?_)
  have hn6 := hV.1
  have hL := EnR_L hE
  have hz := EnR_z hE
  have hx1 := isN_1 hx
  have hru := EnR_ru hE
  simp only [s_188_0, s_188_1, s_188_2, s_188_3, s_188_7, s_188_8, s_188_11, s_188_14, s_188_15, s_188_16, s_188_17, s_188_22, s_188_25, s_188_26, s_188_30, s_188_33, s_188_34, s_188_36, s_188_37, s_188_40, s_188_41, s_188_42, s_188_43, s_188_46, s_188_49, s_188_50, true_and, and_true, sc0, sc1, sc2, sc3, sc4, Option.toList, List.cons_append, List.nil_append, clr, ne_eq, not_false_eq_true, not_true_eq_false, false_and, and_false, true_or, or_true, or_false, false_or, forall_const, Nat.reduceEqDiff, List.length_nil, List.length_cons, Nat.zero_le, Nat.reduceAdd, Nat.reduceLeDiff, false_implies, true_implies, Int.reduceEq, Int.reduceNe, Int.reduceLT, Int.reduceLE, Int.reduceNeg, Int.reduceToNat, Int.toNat_natCast, Nat.reduceLT, and_self, Decidable.not_not, kR_1, kR_2, kR_3, kR_4, kR_5, kR_6, kR_7, kR_8, kR_9, kR_10, kR_11, kR_12, kR_13, kR_14, kR_15, kR_16, kR_17, kR_18, kR_19, kR_20, kR_21, kR_22, kR_23, pR_0, pR_5, pR_6, pR_8, pR_11, pR_16, pR_17, pR_18, pR_21, pR_22, pR_23, pR_24, pR_26, pR_28, pR_29, pR_30, pR_33, pR_34, pR_35, pR_38, pR_41, pR_42, pR_43]
  refine lup (α := Nat × MM) (I := fun i y => Fr SPl TPl M y.2) (G := fun i y => wpB (Ev d) 188 Q X 5 [some (pR 1), some (pR x), some (pI (f : Int)), some (pI ((bs (fun g => onS c z V A B g f) i : Nat) : Int)), some (pI (i : Int))] [] (kz LR) (PR y.1 ru) y.2) n (fun y hy => ?_) (fun i y hi hy ih => ?_) 0 (rd, M) (Nat.zero_le _) Fr_refl
  · obtain ⟨rd1, N⟩ := y
    dsimp only at hy ⊢
    have e3 : N 1 3 = (n : Int) := by rw [hy.1 3 (by decide)]; exact hE.1.2.2.1
    rw [s_188_5]
    simp only [s_188_0, s_188_1, s_188_2, s_188_3, s_188_7, s_188_8, s_188_11, s_188_14, s_188_15, s_188_16, s_188_17, s_188_22, s_188_25, s_188_26, s_188_30, s_188_33, s_188_34, s_188_36, s_188_37, s_188_40, s_188_41, s_188_42, s_188_43, s_188_46, s_188_49, s_188_50, true_and, and_true, sc0, sc1, sc2, sc3, sc4, Option.toList, List.cons_append, List.nil_append, clr, ne_eq, not_false_eq_true, not_true_eq_false, false_and, and_false, true_or, or_true, or_false, false_or, forall_const, Nat.reduceEqDiff, List.length_nil, List.length_cons, Nat.zero_le, Nat.reduceAdd, Nat.reduceLeDiff, false_implies, true_implies, Int.reduceEq, Int.reduceNe, Int.reduceLT, Int.reduceLE, Int.reduceNeg, Int.reduceToNat, Int.toNat_natCast, Nat.reduceLT, and_self, Decidable.not_not, kR_1, kR_2, kR_3, kR_4, kR_5, kR_6, kR_7, kR_8, kR_9, kR_10, kR_11, kR_12, kR_13, kR_14, kR_15, kR_16, kR_17, kR_18, kR_19, kR_20, kR_21, kR_22, kR_23, pR_0, pR_5, pR_6, pR_8, pR_11, pR_16, pR_17, pR_18, pR_21, pR_22, pR_23, pR_24, pR_26, pR_28, pR_29, pR_30, pR_33, pR_34, pR_35, pR_38, pR_41, pR_42, pR_43, e3, Int.le_refl]
    exact hQ _ _ _ ⟨⟨rd1, rfl⟩, rfl, hy⟩
  · obtain ⟨rd1, N⟩ := y
    dsimp only at hy ⊢
    have e3 : N 1 3 = (n : Int) := by rw [hy.1 3 (by decide)]; exact hE.1.2.2.1
    have e0 : ¬ (n : Int) ≤ (i : Int) := by omega
    have en := EqW_i (w32n (show i < 1000000 by omega))
    obtain ⟨v, P', K, hE1, ⟨rd2, rfl⟩, rfl, hF1, k1, k2⟩ := r_pathOf (rd := rd1) (EnR_fr hE hy (by decide) ⟨by decide, by simp [TPl]; omega⟩) hx (ArR_fr hA hy hx1.1 hx1.2.1) hV hi d (by omega)
    have hFK : Fr SPl TPl M K := Fr_trans hy hF1
    have hor := bs_orI (p := fun g => onS c z V A B g f) (show i < 30 by omega)
    rw [s_188_5]
    simp only [s_188_0, s_188_1, s_188_2, s_188_3, s_188_7, s_188_8, s_188_11, s_188_14, s_188_15, s_188_16, s_188_17, s_188_22, s_188_25, s_188_26, s_188_30, s_188_33, s_188_34, s_188_36, s_188_37, s_188_40, s_188_41, s_188_42, s_188_43, s_188_46, s_188_49, s_188_50, true_and, and_true, sc0, sc1, sc2, sc3, sc4, Option.toList, List.cons_append, List.nil_append, clr, ne_eq, not_false_eq_true, not_true_eq_false, false_and, and_false, true_or, or_true, or_false, false_or, forall_const, Nat.reduceEqDiff, List.length_nil, List.length_cons, Nat.zero_le, Nat.reduceAdd, Nat.reduceLeDiff, false_implies, true_implies, Int.reduceEq, Int.reduceNe, Int.reduceLT, Int.reduceLE, Int.reduceNeg, Int.reduceToNat, Int.toNat_natCast, Nat.reduceLT, and_self, Decidable.not_not, kR_1, kR_2, kR_3, kR_4, kR_5, kR_6, kR_7, kR_8, kR_9, kR_10, kR_11, kR_12, kR_13, kR_14, kR_15, kR_16, kR_17, kR_18, kR_19, kR_20, kR_21, kR_22, kR_23, pR_0, pR_5, pR_6, pR_8, pR_11, pR_16, pR_17, pR_18, pR_21, pR_22, pR_23, pR_24, pR_26, pR_28, pR_29, pR_30, pR_33, pR_34, pR_35, pR_38, pR_41, pR_42, pR_43, e3, e0]
    refine s_188_19 (Nat.le_of_ble_eq_true rfl) kR_1 hE1 ?_
    by_cases hp : hpS c z V A B i
    · have g1 : ¬ vS c z V A B i < 0 := fun w => (vS_neg hL hV hi).mp w hp
      have hnl := nS_le (V := V) hL hV hi
      simp only [s_188_0, s_188_1, s_188_2, s_188_3, s_188_7, s_188_8, s_188_11, s_188_14, s_188_15, s_188_16, s_188_17, s_188_22, s_188_25, s_188_26, s_188_30, s_188_33, s_188_34, s_188_36, s_188_37, s_188_40, s_188_41, s_188_42, s_188_43, s_188_46, s_188_49, s_188_50, true_and, and_true, sc0, sc1, sc2, sc3, sc4, Option.toList, List.cons_append, List.nil_append, clr, ne_eq, not_false_eq_true, not_true_eq_false, false_and, and_false, true_or, or_true, or_false, false_or, forall_const, Nat.reduceEqDiff, List.length_nil, List.length_cons, Nat.zero_le, Nat.reduceAdd, Nat.reduceLeDiff, false_implies, true_implies, Int.reduceEq, Int.reduceNe, Int.reduceLT, Int.reduceLE, Int.reduceNeg, Int.reduceToNat, Int.toNat_natCast, Nat.reduceLT, and_self, Decidable.not_not, kR_1, kR_2, kR_3, kR_4, kR_5, kR_6, kR_7, kR_8, kR_9, kR_10, kR_11, kR_12, kR_13, kR_14, kR_15, kR_16, kR_17, kR_18, kR_19, kR_20, kR_21, kR_22, kR_23, pR_0, pR_5, pR_6, pR_8, pR_11, pR_16, pR_17, pR_18, pR_21, pR_22, pR_23, pR_24, pR_26, pR_28, pR_29, pR_30, pR_33, pR_34, pR_35, pR_38, pR_41, pR_42, pR_43, g1]
      refine s_188_27 (Nat.le_of_ble_eq_true rfl) kR_1 (r_isOnWay k1 (by omega) d (by omega)) ?_
      by_cases ho : onS c z V A B i f = true
      · rw [if_pos ((onS_w k2).mpr ho)]
        rw [if_pos ho] at hor
        simp only [s_188_0, s_188_1, s_188_2, s_188_3, s_188_7, s_188_8, s_188_11, s_188_14, s_188_15, s_188_16, s_188_17, s_188_22, s_188_25, s_188_26, s_188_30, s_188_33, s_188_34, s_188_36, s_188_37, s_188_40, s_188_41, s_188_42, s_188_43, s_188_46, s_188_49, s_188_50, true_and, and_true, sc0, sc1, sc2, sc3, sc4, Option.toList, List.cons_append, List.nil_append, clr, ne_eq, not_false_eq_true, not_true_eq_false, false_and, and_false, true_or, or_true, or_false, false_or, forall_const, Nat.reduceEqDiff, List.length_nil, List.length_cons, Nat.zero_le, Nat.reduceAdd, Nat.reduceLeDiff, false_implies, true_implies, Int.reduceEq, Int.reduceNe, Int.reduceLT, Int.reduceLE, Int.reduceNeg, Int.reduceToNat, Int.toNat_natCast, Nat.reduceLT, and_self, Decidable.not_not, kR_1, kR_2, kR_3, kR_4, kR_5, kR_6, kR_7, kR_8, kR_9, kR_10, kR_11, kR_12, kR_13, kR_14, kR_15, kR_16, kR_17, kR_18, kR_19, kR_20, kR_21, kR_22, kR_23, pR_0, pR_5, pR_6, pR_8, pR_11, pR_16, pR_17, pR_18, pR_21, pR_22, pR_23, pR_24, pR_26, pR_28, pR_29, pR_30, pR_33, pR_34, pR_35, pR_38, pR_41, pR_42, pR_43, hor, (EqW_o en)]
        exact ih (rd2, K) hFK
      · rw [if_neg (fun w => ho ((onS_w k2).mp w))]
        rw [if_neg ho] at hor
        simp only [s_188_0, s_188_1, s_188_2, s_188_3, s_188_7, s_188_8, s_188_11, s_188_14, s_188_15, s_188_16, s_188_17, s_188_22, s_188_25, s_188_26, s_188_30, s_188_33, s_188_34, s_188_36, s_188_37, s_188_40, s_188_41, s_188_42, s_188_43, s_188_46, s_188_49, s_188_50, true_and, and_true, sc0, sc1, sc2, sc3, sc4, Option.toList, List.cons_append, List.nil_append, clr, ne_eq, not_false_eq_true, not_true_eq_false, false_and, and_false, true_or, or_true, or_false, false_or, forall_const, Nat.reduceEqDiff, List.length_nil, List.length_cons, Nat.zero_le, Nat.reduceAdd, Nat.reduceLeDiff, false_implies, true_implies, Int.reduceEq, Int.reduceNe, Int.reduceLT, Int.reduceLE, Int.reduceNeg, Int.reduceToNat, Int.toNat_natCast, Nat.reduceLT, and_self, Decidable.not_not, kR_1, kR_2, kR_3, kR_4, kR_5, kR_6, kR_7, kR_8, kR_9, kR_10, kR_11, kR_12, kR_13, kR_14, kR_15, kR_16, kR_17, kR_18, kR_19, kR_20, kR_21, kR_22, kR_23, pR_0, pR_5, pR_6, pR_8, pR_11, pR_16, pR_17, pR_18, pR_21, pR_22, pR_23, pR_24, pR_26, pR_28, pR_29, pR_30, pR_33, pR_34, pR_35, pR_38, pR_41, pR_42, pR_43, hor, (EqW_o en)]
        exact ih (rd2, K) hFK
    · have g1 : vS c z V A B i < 0 := (vS_neg hL hV hi).mpr hp
      rw [if_neg (by rw [onS_no hp]; decide)] at hor
      simp only [s_188_0, s_188_1, s_188_2, s_188_3, s_188_7, s_188_8, s_188_11, s_188_14, s_188_15, s_188_16, s_188_17, s_188_22, s_188_25, s_188_26, s_188_30, s_188_33, s_188_34, s_188_36, s_188_37, s_188_40, s_188_41, s_188_42, s_188_43, s_188_46, s_188_49, s_188_50, true_and, and_true, sc0, sc1, sc2, sc3, sc4, Option.toList, List.cons_append, List.nil_append, clr, ne_eq, not_false_eq_true, not_true_eq_false, false_and, and_false, true_or, or_true, or_false, false_or, forall_const, Nat.reduceEqDiff, List.length_nil, List.length_cons, Nat.zero_le, Nat.reduceAdd, Nat.reduceLeDiff, false_implies, true_implies, Int.reduceEq, Int.reduceNe, Int.reduceLT, Int.reduceLE, Int.reduceNeg, Int.reduceToNat, Int.toNat_natCast, Nat.reduceLT, and_self, Decidable.not_not, kR_1, kR_2, kR_3, kR_4, kR_5, kR_6, kR_7, kR_8, kR_9, kR_10, kR_11, kR_12, kR_13, kR_14, kR_15, kR_16, kR_17, kR_18, kR_19, kR_20, kR_21, kR_22, kR_23, pR_0, pR_5, pR_6, pR_8, pR_11, pR_16, pR_17, pR_18, pR_21, pR_22, pR_23, pR_24, pR_26, pR_28, pR_29, pR_30, pR_33, pR_34, pR_35, pR_38, pR_41, pR_42, pR_43, g1, hor, (EqW_o en)]
      exact ih (rd2, K) hFK
theorem r_blockedOf (hE : EnR M ru r c n z B V) (hx : isN x) (hA : ArR M x A) (hV : SnV A B z n) : Cw 184 221 [pR 1, pR x] LR (PR rd ru) M (fun v P' M' => (∃ rd', P' = PR rd' ru) ∧ v = some (pI ((bs (fun g => !decide (hpS c z V A B g)) n : Nat) : Int)) ∧ Fr SPl TPl M M') := by
  refine Cw_k [some (pR 1), some (pR x), none, none] (Nat.le_of_ble_eq_true rfl) rfl (fun d hd Q X hQ => ?_)
  have hn6 := hV.1
  have hL := EnR_L hE
  have hx1 := isN_1 hx
  have hru := EnR_ru hE
  simp only [s_221_0, s_221_1, s_221_2, s_221_3, s_221_5, s_221_6, s_221_9, s_221_12, s_221_13, s_221_14, s_221_15, s_221_19, s_221_22, s_221_23, s_221_24, s_221_25, s_221_28, s_221_29, s_221_30, s_221_31, s_221_34, s_221_37, s_221_38, true_and, and_true, sc0, sc1, sc2, sc3, sc4, Option.toList, List.cons_append, List.nil_append, clr, ne_eq, not_false_eq_true, not_true_eq_false, false_and, and_false, true_or, or_true, or_false, false_or, forall_const, Nat.reduceEqDiff, List.length_nil, List.length_cons, Nat.zero_le, Nat.reduceAdd, Nat.reduceLeDiff, false_implies, true_implies, Int.reduceEq, Int.reduceNe, Int.reduceLT, Int.reduceLE, Int.reduceNeg, Int.reduceToNat, Int.toNat_natCast, Nat.reduceLT, and_self, Decidable.not_not, kR_1, kR_2, kR_3, kR_4, kR_5, kR_6, kR_7, kR_8, kR_9, kR_10, kR_11, kR_12, kR_13, kR_14, kR_15, kR_16, kR_17, kR_18, kR_19, kR_20, kR_21, kR_22, kR_23, pR_0, pR_5, pR_6, pR_8, pR_11, pR_16, pR_17, pR_18, pR_21, pR_22, pR_23, pR_24, pR_26, pR_28, pR_29, pR_30, pR_33, pR_34, pR_35, pR_38, pR_41, pR_42, pR_43]
  refine lup (α := Nat × MM) (I := fun i y => Fr SPl TPl M y.2) (G := fun i y => wpB (Ev d) 221 Q X 4 [some (pR 1), some (pR x), some (pI ((bs (fun g => !decide (hpS c z V A B g)) i : Nat) : Int)), some (pI (i : Int))] [] (kz LR) (PR y.1 ru) y.2) n (fun y hy => ?_) (fun i y hi hy ih => ?_) 0 (rd, M) (Nat.zero_le _) Fr_refl
  · obtain ⟨rd1, N⟩ := y
    dsimp only at hy ⊢
    have e3 : N 1 3 = (n : Int) := by rw [hy.1 3 (by decide)]; exact hE.1.2.2.1
    rw [s_221_4]
    simp only [s_221_0, s_221_1, s_221_2, s_221_3, s_221_5, s_221_6, s_221_9, s_221_12, s_221_13, s_221_14, s_221_15, s_221_19, s_221_22, s_221_23, s_221_24, s_221_25, s_221_28, s_221_29, s_221_30, s_221_31, s_221_34, s_221_37, s_221_38, true_and, and_true, sc0, sc1, sc2, sc3, sc4, Option.toList, List.cons_append, List.nil_append, clr, ne_eq, not_false_eq_true, not_true_eq_false, false_and, and_false, true_or, or_true, or_false, false_or, forall_const, Nat.reduceEqDiff, List.length_nil, List.length_cons, Nat.zero_le, Nat.reduceAdd, Nat.reduceLeDiff, false_implies, true_implies, Int.reduceEq, Int.reduceNe, Int.reduceLT, Int.reduceLE, Int.reduceNeg, Int.reduceToNat, Int.toNat_natCast, Nat.reduceLT, and_self, Decidable.not_not, kR_1, kR_2, kR_3, kR_4, kR_5, kR_6, kR_7, kR_8, kR_9, kR_10, kR_11, kR_12, kR_13, kR_14, kR_15, kR_16, kR_17, kR_18, kR_19, kR_20, kR_21, kR_22, kR_23, pR_0, pR_5, pR_6, pR_8, pR_11, pR_16, pR_17, pR_18, pR_21, pR_22, pR_23, pR_24, pR_26, pR_28, pR_29, pR_30, pR_33, pR_34, pR_35, pR_38, pR_41, pR_42, pR_43, e3, Int.le_refl]
    exact hQ _ _ _ ⟨⟨rd1, rfl⟩, rfl, hy⟩
  · obtain ⟨rd1, N⟩ := y
    dsimp only at hy ⊢
    have e3 : N 1 3 = (n : Int) := by rw [hy.1 3 (by decide)]; exact hE.1.2.2.1
    have e0 : ¬ (n : Int) ≤ (i : Int) := by omega
    have en := EqW_i (w32n (show i < 1000000 by omega))
    obtain ⟨v, P', K, hE1, ⟨rd2, rfl⟩, rfl, hF1, k1, k2⟩ := r_pathOf (rd := rd1) (EnR_fr hE hy (by decide) ⟨by decide, by simp [TPl]; omega⟩) hx (ArR_fr hA hy hx1.1 hx1.2.1) hV hi d (by omega)
    have hFK : Fr SPl TPl M K := Fr_trans hy hF1
    have hor := bs_orI (p := fun g => !decide (hpS c z V A B g)) (show i < 30 by omega)
    rw [s_221_4]
    simp only [s_221_0, s_221_1, s_221_2, s_221_3, s_221_5, s_221_6, s_221_9, s_221_12, s_221_13, s_221_14, s_221_15, s_221_19, s_221_22, s_221_23, s_221_24, s_221_25, s_221_28, s_221_29, s_221_30, s_221_31, s_221_34, s_221_37, s_221_38, true_and, and_true, sc0, sc1, sc2, sc3, sc4, Option.toList, List.cons_append, List.nil_append, clr, ne_eq, not_false_eq_true, not_true_eq_false, false_and, and_false, true_or, or_true, or_false, false_or, forall_const, Nat.reduceEqDiff, List.length_nil, List.length_cons, Nat.zero_le, Nat.reduceAdd, Nat.reduceLeDiff, false_implies, true_implies, Int.reduceEq, Int.reduceNe, Int.reduceLT, Int.reduceLE, Int.reduceNeg, Int.reduceToNat, Int.toNat_natCast, Nat.reduceLT, and_self, Decidable.not_not, kR_1, kR_2, kR_3, kR_4, kR_5, kR_6, kR_7, kR_8, kR_9, kR_10, kR_11, kR_12, kR_13, kR_14, kR_15, kR_16, kR_17, kR_18, kR_19, kR_20, kR_21, kR_22, kR_23, pR_0, pR_5, pR_6, pR_8, pR_11, pR_16, pR_17, pR_18, pR_21, pR_22, pR_23, pR_24, pR_26, pR_28, pR_29, pR_30, pR_33, pR_34, pR_35, pR_38, pR_41, pR_42, pR_43, e3, e0]
    refine s_221_16 (Nat.le_of_ble_eq_true rfl) kR_1 hE1 ?_
    by_cases hp : hpS c z V A B i
    · have g1 : 0 ≤ vS c z V A B i := Int.not_lt.mp (fun w => (vS_neg (V := V) hL hV hi).mp w hp)
      rw [if_neg (by simp [hp])] at hor
      simp only [s_221_0, s_221_1, s_221_2, s_221_3, s_221_5, s_221_6, s_221_9, s_221_12, s_221_13, s_221_14, s_221_15, s_221_19, s_221_22, s_221_23, s_221_24, s_221_25, s_221_28, s_221_29, s_221_30, s_221_31, s_221_34, s_221_37, s_221_38, true_and, and_true, sc0, sc1, sc2, sc3, sc4, Option.toList, List.cons_append, List.nil_append, clr, ne_eq, not_false_eq_true, not_true_eq_false, false_and, and_false, true_or, or_true, or_false, false_or, forall_const, Nat.reduceEqDiff, List.length_nil, List.length_cons, Nat.zero_le, Nat.reduceAdd, Nat.reduceLeDiff, false_implies, true_implies, Int.reduceEq, Int.reduceNe, Int.reduceLT, Int.reduceLE, Int.reduceNeg, Int.reduceToNat, Int.toNat_natCast, Nat.reduceLT, and_self, Decidable.not_not, kR_1, kR_2, kR_3, kR_4, kR_5, kR_6, kR_7, kR_8, kR_9, kR_10, kR_11, kR_12, kR_13, kR_14, kR_15, kR_16, kR_17, kR_18, kR_19, kR_20, kR_21, kR_22, kR_23, pR_0, pR_5, pR_6, pR_8, pR_11, pR_16, pR_17, pR_18, pR_21, pR_22, pR_23, pR_24, pR_26, pR_28, pR_29, pR_30, pR_33, pR_34, pR_35, pR_38, pR_41, pR_42, pR_43, g1, hor, (EqW_o en)]
      exact ih (rd2, K) hFK
    · have g1 : ¬ 0 ≤ vS c z V A B i := Int.not_le.mpr ((vS_neg (V := V) hL hV hi).mpr hp)
      rw [if_pos (by simp [hp])] at hor
      simp only [s_221_0, s_221_1, s_221_2, s_221_3, s_221_5, s_221_6, s_221_9, s_221_12, s_221_13, s_221_14, s_221_15, s_221_19, s_221_22, s_221_23, s_221_24, s_221_25, s_221_28, s_221_29, s_221_30, s_221_31, s_221_34, s_221_37, s_221_38, true_and, and_true, sc0, sc1, sc2, sc3, sc4, Option.toList, List.cons_append, List.nil_append, clr, ne_eq, not_false_eq_true, not_true_eq_false, false_and, and_false, true_or, or_true, or_false, false_or, forall_const, Nat.reduceEqDiff, List.length_nil, List.length_cons, Nat.zero_le, Nat.reduceAdd, Nat.reduceLeDiff, false_implies, true_implies, Int.reduceEq, Int.reduceNe, Int.reduceLT, Int.reduceLE, Int.reduceNeg, Int.reduceToNat, Int.toNat_natCast, Nat.reduceLT, and_self, Decidable.not_not, kR_1, kR_2, kR_3, kR_4, kR_5, kR_6, kR_7, kR_8, kR_9, kR_10, kR_11, kR_12, kR_13, kR_14, kR_15, kR_16, kR_17, kR_18, kR_19, kR_20, kR_21, kR_22, kR_23, pR_0, pR_5, pR_6, pR_8, pR_11, pR_16, pR_17, pR_18, pR_21, pR_22, pR_23, pR_24, pR_26, pR_28, pR_29, pR_30, pR_33, pR_34, pR_35, pR_38, pR_41, pR_42, pR_43, g1, hor, (EqW_o en)]
      exact ih (rd2, K) hFK
end
