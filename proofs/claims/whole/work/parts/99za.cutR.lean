/-! cut: the reference; alike -/
theorem w32_n {x : Nat} (h : x < 1000) : w32 (x : Int) = (x : Int) := w32s (by omega)
theorem w32_a {x y : Nat} (h : x < 1000) (h2 : y < 1000) : w32 ((x : Int) + (y : Int)) = ((x + y : Nat) : Int) := by rw [w32s (by omega)]; rfl
def apN (c s t : Nat) : Nat := ((s / c - t / c) + (t / c - s / c)) + ((s % c - t % c) + (t % c - s % c))
theorem ap_k : ∀ c, c < 7 → 1 ≤ c → ∀ s, s < 36 → ∀ t, t < 36 → (decide (apN c s t < 2) = decide (s = t ∨ (c ≤ s ∧ s - c = t) ∨ (s % c ≠ 0 ∧ s - 1 = t) ∨ (s % c ≠ c - 1 ∧ s + 1 = t) ∨ s + c = t)) := by decide +kernel
theorem ap_n {c z s t : Nat} (hL : Lnd c z) (hs : s < z) (ht : t < z) : apN c s t < 2 ↔ (s = t ∨ nbB c z s t = true) := by
  have hz := hL.2.2.1
  have h := ap_k c (by have := hL.2.1; omega) hL.1 s (by omega) t (by omega)
  have h2 : apN c s t < 2 ↔ (s = t ∨ (c ≤ s ∧ s - c = t) ∨ (s % c ≠ 0 ∧ s - 1 = t) ∨ (s % c ≠ c - 1 ∧ s + 1 = t) ∨ s + c = t) := decide_eq_decide.mp h
  rw [h2]
  have s0 : s % c ≠ 0 → 1 ≤ s := fun w => by
    rcases Nat.eq_zero_or_pos s with e | e
    · subst e; exact absurd (Nat.zero_mod c) w
    · exact e
  have h3 : nbB c z s t = true ↔ ((c ≤ s ∧ s - c = t) ∨ (s % c ≠ 0 ∧ s - 1 = t) ∨ (s % c ≠ c - 1 ∧ s + 1 = t) ∨ s + c = t) := by
    unfold nbB
    rw [decide_eq_true_eq, bsd_0, bsd_1, bsd_2, bsd_3]
    have a0 : ((if c ≤ s then (s : Int) - c else -1) = (t : Int)) ↔ (c ≤ s ∧ s - c = t) := by split <;> omega
    have a1 : ((if s % c = 0 then (-1 : Int) else (s : Int) - 1) = (t : Int)) ↔ (s % c ≠ 0 ∧ s - 1 = t) := by
      split
      · omega
      · rename_i w
        have := s0 w
        omega
    have a2 : ((if s % c = c - 1 then (-1 : Int) else (s : Int) + 1) = (t : Int)) ↔ (s % c ≠ c - 1 ∧ s + 1 = t) := by split <;> omega
    have a3 : ((if s + c < z then (s : Int) + c else -1) = (t : Int)) ↔ s + c = t := by split <;> omega
    rw [a0, a1, a2, a3]
  rw [h3]
theorem IsCut_of {c z s t k : Nat} {p : Nat → Bool} (hL : Lnd c z) (hs : s < z) (h0 : Rch c z (fun f => p f = true) s t) (hk : k ≤ 4) (hno : ∀ j, 1 ≤ j → j < k → ¬ ckP c z s t j 0 p) (h : k < 4 → ckP c z s t k 0 p) : IsCut c z p s t k := by
  refine ⟨hk, fun q h1 h2 => ?_, fun w => (ck_S hL hs).mp (h w)⟩
  apply Classical.byContradiction
  intro w
  have hq : ckP c z s t (cnt q z) 0 p := (ck_S hL hs).mpr ⟨q, h1, rfl, h2⟩
  by_cases e : cnt q z = 0
  · rw [e] at hq
    exact hq h0
  · exact hno (cnt q z) (by omega) (by omega) hq
section
variable {M : MM} {rd ru r c z n x : Nat} {A B : Nat → Int} {V : GV} {u : Int}
theorem r_pathOfH {i : Nat} (hE : EnR M ru r c n z B V) (hx : isN x) (hA : ArR M x A) (hV : SnV A B z n) (hi : i < n) : Cw 183 189 [pR 1, pR x, pI (i : Int)] LR (PR rd ru) M (fun v P' M' => (∃ rd', P' = PR rd' ru) ∧ v = some (pI (vS c z V A B i)) ∧ Fr SPl TPl M M' ∧ ∀ f, f < z → M' 10 f = hF V A i f) := by
  refine Cw_k [some (pR 1), some (pR x), some (pI (i : Int))] (Nat.le_of_ble_eq_true rfl) rfl (fun d hd Q X hQ => ?_)
  have hn6 := hV.1
  have hz := EnR_z hE
  have hx1 := isN_1 hx
  have kx := isN_k hx
  obtain ⟨v, P', N, hE1, ⟨rd1, rfl⟩, rfl, hF1, hN⟩ := r_layHardness (rd := rd) hE.1 hE.2.1 hE.2.2.2 hx hA hV hi d (by omega)
  obtain ⟨vs, vt, _, _, _⟩ := hV.2.2.1 i hi
  obtain ⟨s, hs⟩ : ∃ s : Nat, B i = (s : Int) := ⟨(B i).toNat, by omega⟩
  obtain ⟨t, ht⟩ : ∃ s : Nat, A (108 + i) = (s : Int) := ⟨(A (108 + i)).toNat, by omega⟩
  have hru := EnR_ru hE
  have hEN : EnR N ru r c n z B V := EnR_fr hE hF1 (by decide) ⟨by decide, by simp; omega⟩
  have e3 : N 3 i = (s : Int) := by rw [hEN.2.2.1 i hi, hs]
  have eA : N x (108 + i) = (t : Int) := by rw [hF1.2 x hx1.1 (by have := hx1.2.1; simp [TPl] at this; simp; omega), hA (108 + i) (by omega), ht]
  obtain ⟨v, P', K, hE2, rfl, rfl, hF2, k1, k2⟩ := r_layWay (rd := rd1) (ru := ru) (s := s) (t := t) hEN.1 hEN.2.1 hN hF_H (by omega) (by omega) d (by omega)
  have q1 : EqW (w32 (108 + (i : Int))) (((108 + i : Nat) : Int)) := EqW_i <| by unfold w32; omega
  have b0 : (0 : Int) ≤ (i : Int) := by omega
  have b1 : (i : Int) < ((6 : Nat) : Int) := by omega
  have b2 : (0 : Int) ≤ ((108 + i : Nat) : Int) := by omega
  have b3 : ((108 + i : Nat) : Int) < ((133 : Nat) : Int) := by omega
  simp only [s_189_0, s_189_1, s_189_2, s_189_6, s_189_7, s_189_8, s_189_11, s_189_12, s_189_13, s_189_14, s_189_16, s_189_17, s_189_18, s_189_22, true_and, and_true, sc0, sc1, sc2, sc3, sc4, Option.toList, List.cons_append, List.nil_append, clr, ne_eq, not_false_eq_true, not_true_eq_false, false_and, and_false, true_or, or_true, or_false, false_or, forall_const, Nat.reduceEqDiff, List.length_nil, List.length_cons, Nat.zero_le, Nat.reduceAdd, Nat.reduceLeDiff, false_implies, true_implies, Int.reduceEq, Int.reduceNe, Int.reduceLT, Int.reduceLE, Int.reduceNeg, Int.reduceToNat, Int.toNat_natCast, Nat.reduceLT, and_self, Decidable.not_not, kR_1, kR_2, kR_3, kR_4, kR_5, kR_6, kR_7, kR_8, kR_9, kR_10, kR_11, kR_12, kR_13, kR_14, kR_15, kR_16, kR_17, kR_18, kR_19, kR_20, kR_21, kR_22, kR_23, pR_0, pR_5, pR_6, pR_8, pR_11, pR_16, pR_17, pR_18, pR_21, pR_22, pR_23, pR_24, pR_26, pR_28, pR_29, pR_30, pR_33, pR_34, pR_35, pR_38, pR_41, pR_42, pR_43]
  refine s_189_3 (Nat.le_of_ble_eq_true rfl) kR_1 hE1 ?_
  simp only [s_189_0, s_189_1, s_189_2, s_189_6, s_189_7, s_189_8, s_189_11, s_189_12, s_189_13, s_189_14, s_189_16, s_189_17, s_189_18, s_189_22, true_and, and_true, sc0, sc1, sc2, sc3, sc4, Option.toList, List.cons_append, List.nil_append, clr, ne_eq, not_false_eq_true, not_true_eq_false, false_and, and_false, true_or, or_true, or_false, false_or, forall_const, Nat.reduceEqDiff, List.length_nil, List.length_cons, Nat.zero_le, Nat.reduceAdd, Nat.reduceLeDiff, false_implies, true_implies, Int.reduceEq, Int.reduceNe, Int.reduceLT, Int.reduceLE, Int.reduceNeg, Int.reduceToNat, Int.toNat_natCast, Nat.reduceLT, and_self, Decidable.not_not, kR_1, kR_2, kR_3, kR_4, kR_5, kR_6, kR_7, kR_8, kR_9, kR_10, kR_11, kR_12, kR_13, kR_14, kR_15, kR_16, kR_17, kR_18, kR_19, kR_20, kR_21, kR_22, kR_23, pR_0, pR_5, pR_6, pR_8, pR_11, pR_16, pR_17, pR_18, pR_21, pR_22, pR_23, pR_24, pR_26, pR_28, pR_29, pR_30, pR_33, pR_34, pR_35, pR_38, pR_41, pR_42, pR_43, b0, b1, b2, b3, e3, eA, kx, (EqW_o q1)]
  refine s_189_19 (Nat.le_of_ble_eq_true rfl) kR_1 hE2 ?_
  simp only [s_189_0, s_189_1, s_189_2, s_189_6, s_189_7, s_189_8, s_189_11, s_189_12, s_189_13, s_189_14, s_189_16, s_189_17, s_189_18, s_189_22, true_and, and_true, sc0, sc1, sc2, sc3, sc4, Option.toList, List.cons_append, List.nil_append, clr, ne_eq, not_false_eq_true, not_true_eq_false, false_and, and_false, true_or, or_true, or_false, false_or, forall_const, Nat.reduceEqDiff, List.length_nil, List.length_cons, Nat.zero_le, Nat.reduceAdd, Nat.reduceLeDiff, false_implies, true_implies, Int.reduceEq, Int.reduceNe, Int.reduceLT, Int.reduceLE, Int.reduceNeg, Int.reduceToNat, Int.toNat_natCast, Nat.reduceLT, and_self, Decidable.not_not, kR_1, kR_2, kR_3, kR_4, kR_5, kR_6, kR_7, kR_8, kR_9, kR_10, kR_11, kR_12, kR_13, kR_14, kR_15, kR_16, kR_17, kR_18, kR_19, kR_20, kR_21, kR_22, kR_23, pR_0, pR_5, pR_6, pR_8, pR_11, pR_16, pR_17, pR_18, pR_21, pR_22, pR_23, pR_24, pR_26, pR_28, pR_29, pR_30, pR_33, pR_34, pR_35, pR_38, pR_41, pR_42, pR_43]
  have es : (B i).toNat = s := by rw [hs, Int.toNat_natCast]
  have et : (A (108 + i)).toNat = t := by rw [ht, Int.toNat_natCast]
  refine hQ _ _ _ ⟨⟨rd1, rfl⟩, ?_, Fr_trans (Fr_mono hF1 (by simp [SPl]) (by simp [TPl])) (Fr_mono hF2 (by simp [SPl]) (by simp [TPl])), fun f hf => ?_⟩
  · show _ = some (pI (pV c z (hF V A i) (B i).toNat (A (108 + i)).toNat)); rw [es, et]
  · rw [hF2.2 10 (by decide) (by decide)]; exact hN f hf
theorem r_cut {g : Int} (h : WdR M ru r c z n A B V u) : Cw 190 225 [pR 1, pI g] LR (PR rd ru) M (QRt ru M (pI (qCut c z n V A B g)) none 0) := by
  refine Cw_k [some (pR 1), some (pI g), none, none] (Nat.le_of_ble_eq_true rfl) rfl (fun d hd Q X hQ => ?_)
  obtain ⟨hW, hF0, h10, h9, h5⟩ := WdR_0 h
  generalize hM0 : uM M 1 10 0 = M0 at hW hF0 h10 h9 h5
  have hz := EnR_z hW.1
  have hL := EnR_L hW.1
  have hV := hW.2.2.1
  have hn6 := hV.1
  unfold qCut at hQ
  simp only [s_225_0, s_225_1, s_225_2, s_225_5, s_225_6, s_225_10, s_225_13, s_225_14, s_225_15, s_225_16, s_225_17, s_225_20, s_225_24, s_225_27, s_225_28, s_225_29, s_225_30, s_225_33, s_225_34, s_225_35, s_225_36, s_225_39, s_225_40, s_225_41, s_225_44, s_225_46, s_225_47, s_225_48, s_225_49, s_225_50, s_225_53, s_225_54, s_225_55, s_225_58, s_225_59, s_225_62, s_225_63, s_225_64, s_225_65, s_225_68, s_225_69, s_225_70, s_225_73, s_225_75, s_225_76, s_225_77, s_225_78, s_225_79, s_225_82, s_225_83, s_225_84, s_225_87, s_225_88, s_225_89, s_225_90, s_225_91, s_225_94, s_225_96, s_225_97, s_225_98, s_225_100, s_225_101, s_225_104, s_225_105, s_225_106, s_225_107, s_225_111, s_225_114, s_225_117, s_225_120, s_225_121, true_and, and_true, sc0, sc1, sc2, sc3, sc4, Option.toList, List.cons_append, List.nil_append, clr, ne_eq, not_false_eq_true, not_true_eq_false, false_and, and_false, true_or, or_true, or_false, false_or, forall_const, Nat.reduceEqDiff, List.length_nil, List.length_cons, Nat.zero_le, Nat.reduceAdd, Nat.reduceLeDiff, false_implies, true_implies, Int.reduceEq, Int.reduceNe, Int.reduceLT, Int.reduceLE, Int.reduceNeg, Int.reduceToNat, Int.toNat_natCast, Nat.reduceLT, and_self, Decidable.not_not, kR_1, kR_2, kR_3, kR_4, kR_5, kR_6, kR_7, kR_8, kR_9, kR_10, kR_11, kR_12, kR_13, kR_14, kR_15, kR_16, kR_17, kR_18, kR_19, kR_20, kR_21, kR_22, kR_23, pR_0, pR_5, pR_6, pR_8, pR_11, pR_16, pR_17, pR_18, pR_21, pR_22, pR_23, pR_24, pR_26, pR_28, pR_29, pR_30, pR_33, pR_34, pR_35, pR_38, pR_41, pR_42, pR_43, hM0]
  refine s_225_7 (Nat.le_of_ble_eq_true rfl) kR_1 (r_isGoer hW.1.1 d (by omega)) ?_
  by_cases c1 : 0 ≤ g ∧ g < (n : Int)
  case neg =>
    rw [if_pos c1] at hQ
    rw [if_neg c1]
    simp only [s_225_0, s_225_1, s_225_2, s_225_5, s_225_6, s_225_10, s_225_13, s_225_14, s_225_15, s_225_16, s_225_17, s_225_20, s_225_24, s_225_27, s_225_28, s_225_29, s_225_30, s_225_33, s_225_34, s_225_35, s_225_36, s_225_39, s_225_40, s_225_41, s_225_44, s_225_46, s_225_47, s_225_48, s_225_49, s_225_50, s_225_53, s_225_54, s_225_55, s_225_58, s_225_59, s_225_62, s_225_63, s_225_64, s_225_65, s_225_68, s_225_69, s_225_70, s_225_73, s_225_75, s_225_76, s_225_77, s_225_78, s_225_79, s_225_82, s_225_83, s_225_84, s_225_87, s_225_88, s_225_89, s_225_90, s_225_91, s_225_94, s_225_96, s_225_97, s_225_98, s_225_100, s_225_101, s_225_104, s_225_105, s_225_106, s_225_107, s_225_111, s_225_114, s_225_117, s_225_120, s_225_121, true_and, and_true, sc0, sc1, sc2, sc3, sc4, Option.toList, List.cons_append, List.nil_append, clr, ne_eq, not_false_eq_true, not_true_eq_false, false_and, and_false, true_or, or_true, or_false, false_or, forall_const, Nat.reduceEqDiff, List.length_nil, List.length_cons, Nat.zero_le, Nat.reduceAdd, Nat.reduceLeDiff, false_implies, true_implies, Int.reduceEq, Int.reduceNe, Int.reduceLT, Int.reduceLE, Int.reduceNeg, Int.reduceToNat, Int.toNat_natCast, Nat.reduceLT, and_self, Decidable.not_not, kR_1, kR_2, kR_3, kR_4, kR_5, kR_6, kR_7, kR_8, kR_9, kR_10, kR_11, kR_12, kR_13, kR_14, kR_15, kR_16, kR_17, kR_18, kR_19, kR_20, kR_21, kR_22, kR_23, pR_0, pR_5, pR_6, pR_8, pR_11, pR_16, pR_17, pR_18, pR_21, pR_22, pR_23, pR_24, pR_26, pR_28, pR_29, pR_30, pR_33, pR_34, pR_35, pR_38, pR_41, pR_42, pR_43]
    exact hQ _ _ _ (QR_n hF0 h10 h9 h5)
  rw [if_neg (fun w => w c1)] at hQ
  rw [if_pos c1]
  obtain ⟨i, rfl⟩ : ∃ i : Nat, g = (i : Int) := ⟨g.toNat, by omega⟩
  have hi : i < n := by omega
  rw [Int.toNat_natCast] at hQ
  obtain ⟨v, P', N, hE1, ⟨rd1, rfl⟩, rfl, hF1, hN10⟩ := r_pathOfH (rd := rd) (x := 2) hW.1 (Or.inl rfl) hW.2.1 hV hi d (by omega)
  obtain ⟨q9, q5, q10⟩ := Fr_p9 hF1
  have fin : ∀ v, QRt ru M (pI v) none 0 (some (pI v)) (PR rd1 ru) N := fun v => QR_n (Fr_trans hF0 (Fr_p hF1)) (by rw [q10]; exact h10) (by rw [q9]; exact h9) (by rw [q5]; exact h5)
  simp only [s_225_0, s_225_1, s_225_2, s_225_5, s_225_6, s_225_10, s_225_13, s_225_14, s_225_15, s_225_16, s_225_17, s_225_20, s_225_24, s_225_27, s_225_28, s_225_29, s_225_30, s_225_33, s_225_34, s_225_35, s_225_36, s_225_39, s_225_40, s_225_41, s_225_44, s_225_46, s_225_47, s_225_48, s_225_49, s_225_50, s_225_53, s_225_54, s_225_55, s_225_58, s_225_59, s_225_62, s_225_63, s_225_64, s_225_65, s_225_68, s_225_69, s_225_70, s_225_73, s_225_75, s_225_76, s_225_77, s_225_78, s_225_79, s_225_82, s_225_83, s_225_84, s_225_87, s_225_88, s_225_89, s_225_90, s_225_91, s_225_94, s_225_96, s_225_97, s_225_98, s_225_100, s_225_101, s_225_104, s_225_105, s_225_106, s_225_107, s_225_111, s_225_114, s_225_117, s_225_120, s_225_121, true_and, and_true, sc0, sc1, sc2, sc3, sc4, Option.toList, List.cons_append, List.nil_append, clr, ne_eq, not_false_eq_true, not_true_eq_false, false_and, and_false, true_or, or_true, or_false, false_or, forall_const, Nat.reduceEqDiff, List.length_nil, List.length_cons, Nat.zero_le, Nat.reduceAdd, Nat.reduceLeDiff, false_implies, true_implies, Int.reduceEq, Int.reduceNe, Int.reduceLT, Int.reduceLE, Int.reduceNeg, Int.reduceToNat, Int.toNat_natCast, Nat.reduceLT, and_self, Decidable.not_not, kR_1, kR_2, kR_3, kR_4, kR_5, kR_6, kR_7, kR_8, kR_9, kR_10, kR_11, kR_12, kR_13, kR_14, kR_15, kR_16, kR_17, kR_18, kR_19, kR_20, kR_21, kR_22, kR_23, pR_0, pR_5, pR_6, pR_8, pR_11, pR_16, pR_17, pR_18, pR_21, pR_22, pR_23, pR_24, pR_26, pR_28, pR_29, pR_30, pR_33, pR_34, pR_35, pR_38, pR_41, pR_42, pR_43]
  refine s_225_21 (Nat.le_of_ble_eq_true rfl) kR_1 hE1 ?_
  by_cases hp : hpS c z V A B i
  case neg =>
    rw [if_neg hp] at hQ
    have g1 : ¬ 0 ≤ vS c z V A B i := Int.not_le.mpr ((vS_neg hL hV hi).mpr hp)
    simp only [s_225_0, s_225_1, s_225_2, s_225_5, s_225_6, s_225_10, s_225_13, s_225_14, s_225_15, s_225_16, s_225_17, s_225_20, s_225_24, s_225_27, s_225_28, s_225_29, s_225_30, s_225_33, s_225_34, s_225_35, s_225_36, s_225_39, s_225_40, s_225_41, s_225_44, s_225_46, s_225_47, s_225_48, s_225_49, s_225_50, s_225_53, s_225_54, s_225_55, s_225_58, s_225_59, s_225_62, s_225_63, s_225_64, s_225_65, s_225_68, s_225_69, s_225_70, s_225_73, s_225_75, s_225_76, s_225_77, s_225_78, s_225_79, s_225_82, s_225_83, s_225_84, s_225_87, s_225_88, s_225_89, s_225_90, s_225_91, s_225_94, s_225_96, s_225_97, s_225_98, s_225_100, s_225_101, s_225_104, s_225_105, s_225_106, s_225_107, s_225_111, s_225_114, s_225_117, s_225_120, s_225_121, true_and, and_true, sc0, sc1, sc2, sc3, sc4, Option.toList, List.cons_append, List.nil_append, clr, ne_eq, not_false_eq_true, not_true_eq_false, false_and, and_false, true_or, or_true, or_false, false_or, forall_const, Nat.reduceEqDiff, List.length_nil, List.length_cons, Nat.zero_le, Nat.reduceAdd, Nat.reduceLeDiff, false_implies, true_implies, Int.reduceEq, Int.reduceNe, Int.reduceLT, Int.reduceLE, Int.reduceNeg, Int.reduceToNat, Int.toNat_natCast, Nat.reduceLT, and_self, Decidable.not_not, kR_1, kR_2, kR_3, kR_4, kR_5, kR_6, kR_7, kR_8, kR_9, kR_10, kR_11, kR_12, kR_13, kR_14, kR_15, kR_16, kR_17, kR_18, kR_19, kR_20, kR_21, kR_22, kR_23, pR_0, pR_5, pR_6, pR_8, pR_11, pR_16, pR_17, pR_18, pR_21, pR_22, pR_23, pR_24, pR_26, pR_28, pR_29, pR_30, pR_33, pR_34, pR_35, pR_38, pR_41, pR_42, pR_43, g1]
    exact hQ _ _ _ (fin _)
  have g1 : 0 ≤ vS c z V A B i := Int.not_lt.mp (fun w => (vS_neg hL hV hi).mp w hp)
  obtain ⟨vs, vt, _⟩ := hV.2.2.1 i hi
  obtain ⟨s, hs⟩ : ∃ s : Nat, B i = (s : Int) := ⟨(B i).toNat, by omega⟩
  obtain ⟨t, ht⟩ : ∃ s : Nat, A (108 + i) = (s : Int) := ⟨(A (108 + i)).toNat, by omega⟩
  have hsz : s < z := by omega
  have htz : t < z := by omega
  have hRch := (hp_R (V := V) hL hs ht hsz htz).mp hp
  rw [if_pos hp, hs, ht, Int.toNat_natCast, Int.toNat_natCast] at hQ
  have hru := EnR_ru hW.1
  have hEN : EnR N ru r c n z B V := EnR_fr hW.1 hF1 (by decide) ⟨by decide, by simp [TPl]; omega⟩
  have e3 : N 3 i = (s : Int) := by rw [hEN.2.2.1 i hi, hs]
  have eA : N 2 (108 + i) = (t : Int) := by rw [hF1.2 2 (by decide) (by decide), hW.2.1 (108 + i) (by omega), ht]
  have eC : N 1 2 = (c : Int) := hEN.1.2.1
  have bi : (0 : Int) ≤ (i : Int) ∧ (i : Int) < ((6 : Nat) : Int) := by omega
  have bg : (0 : Int) ≤ ((108 + i : Nat) : Int) ∧ ((108 + i : Nat) : Int) < ((133 : Nat) : Int) := by omega
  have eg : EqW (w32 (108 + (i : Int))) (((108 + i : Nat) : Int)) := EqW_i <| by unfold w32; omega
  have hc1 := hL.1
  have c0 : ¬ (c : Int) = 0 := by omega
  have ds : s / c ≤ s := Nat.div_le_self _ _
  have dt : t / c ≤ t := Nat.div_le_self _ _
  have ms : s % c ≤ s := Nat.mod_le _ _
  have mt : t % c ≤ t := Nat.mod_le _ _
  have a1 := EqW_i (show w32 ((s : Int).tdiv (c : Int)) = ((s / c : Nat) : Int) by rw [Int.tdiv_eq_ediv_of_nonneg (by omega), ← Int.natCast_ediv]; exact w32_n (by omega))
  have a2 := EqW_i (show w32 ((t : Int).tdiv (c : Int)) = ((t / c : Nat) : Int) by rw [Int.tdiv_eq_ediv_of_nonneg (by omega), ← Int.natCast_ediv]; exact w32_n (by omega))
  have a3 := EqW_i (show (s : Int).tmod (c : Int) = ((s % c : Nat) : Int) by rw [Int.tmod_eq_emod_of_nonneg (by omega), ← Int.natCast_emod])
  have a4 := EqW_i (show (t : Int).tmod (c : Int) = ((t % c : Nat) : Int) by rw [Int.tmod_eq_emod_of_nonneg (by omega), ← Int.natCast_emod])
  have ab : ∀ x y : Nat, x < 100 → y < 100 → (if 0 ≤ w32 ((x : Int) - (y : Int)) then w32 ((x : Int) - (y : Int)) else w32 (0 - w32 ((x : Int) - (y : Int)))) = (((x - y) + (y - x) : Nat) : Int) := fun x y hx hy => by
    rw [w32s (x := (x : Int) - (y : Int)) (by omega)]
    split
    · omega
    · rw [w32s (by omega)]; omega
  have b1 := EqW_i (ab (s / c) (t / c) (by omega) (by omega))
  have b2 := EqW_i (ab (s % c) (t % c) (by omega) (by omega))
  have b3 := EqW_i (show w32 ((((s / c - t / c) + (t / c - s / c) : Nat) : Int) + (((s % c - t % c) + (t % c - s % c) : Nat) : Int)) = (apN c s t : Int) from w32_a (Nat.lt_of_le_of_lt (Nat.add_le_add (Nat.le_trans (Nat.sub_le _ _) ds) (Nat.le_trans (Nat.sub_le _ _) dt)) (show s + t < 1000 by omega)) (Nat.lt_of_le_of_lt (Nat.add_le_add (Nat.le_trans (Nat.sub_le _ _) ms) (Nat.le_trans (Nat.sub_le _ _) mt)) (show s + t < 1000 by omega)))
  have hap := ap_n hL hsz htz
  simp only [s_225_0, s_225_1, s_225_2, s_225_5, s_225_6, s_225_10, s_225_13, s_225_14, s_225_15, s_225_16, s_225_17, s_225_20, s_225_24, s_225_27, s_225_28, s_225_29, s_225_30, s_225_33, s_225_34, s_225_35, s_225_36, s_225_39, s_225_40, s_225_41, s_225_44, s_225_46, s_225_47, s_225_48, s_225_49, s_225_50, s_225_53, s_225_54, s_225_55, s_225_58, s_225_59, s_225_62, s_225_63, s_225_64, s_225_65, s_225_68, s_225_69, s_225_70, s_225_73, s_225_75, s_225_76, s_225_77, s_225_78, s_225_79, s_225_82, s_225_83, s_225_84, s_225_87, s_225_88, s_225_89, s_225_90, s_225_91, s_225_94, s_225_96, s_225_97, s_225_98, s_225_100, s_225_101, s_225_104, s_225_105, s_225_106, s_225_107, s_225_111, s_225_114, s_225_117, s_225_120, s_225_121, true_and, and_true, sc0, sc1, sc2, sc3, sc4, Option.toList, List.cons_append, List.nil_append, clr, ne_eq, not_false_eq_true, not_true_eq_false, false_and, and_false, true_or, or_true, or_false, false_or, forall_const, Nat.reduceEqDiff, List.length_nil, List.length_cons, Nat.zero_le, Nat.reduceAdd, Nat.reduceLeDiff, false_implies, true_implies, Int.reduceEq, Int.reduceNe, Int.reduceLT, Int.reduceLE, Int.reduceNeg, Int.reduceToNat, Int.toNat_natCast, Nat.reduceLT, and_self, Decidable.not_not, kR_1, kR_2, kR_3, kR_4, kR_5, kR_6, kR_7, kR_8, kR_9, kR_10, kR_11, kR_12, kR_13, kR_14, kR_15, kR_16, kR_17, kR_18, kR_19, kR_20, kR_21, kR_22, kR_23, pR_0, pR_5, pR_6, pR_8, pR_11, pR_16, pR_17, pR_18, pR_21, pR_22, pR_23, pR_24, pR_26, pR_28, pR_29, pR_30, pR_33, pR_34, pR_35, pR_38, pR_41, pR_42, pR_43, g1, bi, e3, eC, c0, eA, EqW_o (EqW_o eg), bg, EqW_o a1, EqW_o a2, EqW_o a3, EqW_o a4, EqW_o b1, EqW_o b2, EqW_o b3]
  by_cases c2 : apN c s t < 2
  · rw [if_pos (hap.mp c2)] at hQ
    have c2' : ¬ (2 : Int) ≤ (apN c s t : Int) := by omega
    simp only [s_225_0, s_225_1, s_225_2, s_225_5, s_225_6, s_225_10, s_225_13, s_225_14, s_225_15, s_225_16, s_225_17, s_225_20, s_225_24, s_225_27, s_225_28, s_225_29, s_225_30, s_225_33, s_225_34, s_225_35, s_225_36, s_225_39, s_225_40, s_225_41, s_225_44, s_225_46, s_225_47, s_225_48, s_225_49, s_225_50, s_225_53, s_225_54, s_225_55, s_225_58, s_225_59, s_225_62, s_225_63, s_225_64, s_225_65, s_225_68, s_225_69, s_225_70, s_225_73, s_225_75, s_225_76, s_225_77, s_225_78, s_225_79, s_225_82, s_225_83, s_225_84, s_225_87, s_225_88, s_225_89, s_225_90, s_225_91, s_225_94, s_225_96, s_225_97, s_225_98, s_225_100, s_225_101, s_225_104, s_225_105, s_225_106, s_225_107, s_225_111, s_225_114, s_225_117, s_225_120, s_225_121, true_and, and_true, sc0, sc1, sc2, sc3, sc4, Option.toList, List.cons_append, List.nil_append, clr, ne_eq, not_false_eq_true, not_true_eq_false, false_and, and_false, true_or, or_true, or_false, false_or, forall_const, Nat.reduceEqDiff, List.length_nil, List.length_cons, Nat.zero_le, Nat.reduceAdd, Nat.reduceLeDiff, false_implies, true_implies, Int.reduceEq, Int.reduceNe, Int.reduceLT, Int.reduceLE, Int.reduceNeg, Int.reduceToNat, Int.toNat_natCast, Nat.reduceLT, and_self, Decidable.not_not, kR_1, kR_2, kR_3, kR_4, kR_5, kR_6, kR_7, kR_8, kR_9, kR_10, kR_11, kR_12, kR_13, kR_14, kR_15, kR_16, kR_17, kR_18, kR_19, kR_20, kR_21, kR_22, kR_23, pR_0, pR_5, pR_6, pR_8, pR_11, pR_16, pR_17, pR_18, pR_21, pR_22, pR_23, pR_24, pR_26, pR_28, pR_29, pR_30, pR_33, pR_34, pR_35, pR_38, pR_41, pR_42, pR_43, c2']
    exact hQ _ _ _ (fin _)
  rw [if_neg (fun w => c2 (hap.mpr w))] at hQ
  have c2' : (2 : Int) ≤ (apN c s t : Int) := by omega
  have can := fun k hk => r_canCut (rd := rd1) (ru := ru) (M := N) (i := i) hEN.1 hEN.2.1 hL (by omega) e3 eA hsz htz k hk 0 (fun f => decide (0 < hF V A i f)) N (Nat.zero_le _) (fun _ _ => rfl) (fun f hf => by
    rw [hN10 f hf]
    exact ⟨(hF_H (z := z) f hf).1, by simp⟩)
  have main : ∀ (m k : Nat), k + m = 4 → 1 ≤ k → (∀ j, 1 ≤ j → j < k → ¬ ckP c z s t j 0 (fun f => decide (0 < hF V A i f))) → wpB (Ev d) 225 Q X 99 [some (pR 1), some (pI (i : Int)), some (pI (apN c s t : Int)), some (pI (k : Int))] [] (kz LR) (PR rd1 ru) N := by
    intro m
    induction m with
    | zero =>
      intro k hk hk1 hno
      have g4 : (4 : Int) ≤ (k : Int) := by omega
      have hic := IsCut_of hL hsz hRch (by omega) hno (fun w => by omega)
      rw [mcV_e hic] at hQ
      rw [s_225_99]
      simp only [s_225_0, s_225_1, s_225_2, s_225_5, s_225_6, s_225_10, s_225_13, s_225_14, s_225_15, s_225_16, s_225_17, s_225_20, s_225_24, s_225_27, s_225_28, s_225_29, s_225_30, s_225_33, s_225_34, s_225_35, s_225_36, s_225_39, s_225_40, s_225_41, s_225_44, s_225_46, s_225_47, s_225_48, s_225_49, s_225_50, s_225_53, s_225_54, s_225_55, s_225_58, s_225_59, s_225_62, s_225_63, s_225_64, s_225_65, s_225_68, s_225_69, s_225_70, s_225_73, s_225_75, s_225_76, s_225_77, s_225_78, s_225_79, s_225_82, s_225_83, s_225_84, s_225_87, s_225_88, s_225_89, s_225_90, s_225_91, s_225_94, s_225_96, s_225_97, s_225_98, s_225_100, s_225_101, s_225_104, s_225_105, s_225_106, s_225_107, s_225_111, s_225_114, s_225_117, s_225_120, s_225_121, true_and, and_true, sc0, sc1, sc2, sc3, sc4, Option.toList, List.cons_append, List.nil_append, clr, ne_eq, not_false_eq_true, not_true_eq_false, false_and, and_false, true_or, or_true, or_false, false_or, forall_const, Nat.reduceEqDiff, List.length_nil, List.length_cons, Nat.zero_le, Nat.reduceAdd, Nat.reduceLeDiff, false_implies, true_implies, Int.reduceEq, Int.reduceNe, Int.reduceLT, Int.reduceLE, Int.reduceNeg, Int.reduceToNat, Int.toNat_natCast, Nat.reduceLT, and_self, Decidable.not_not, kR_1, kR_2, kR_3, kR_4, kR_5, kR_6, kR_7, kR_8, kR_9, kR_10, kR_11, kR_12, kR_13, kR_14, kR_15, kR_16, kR_17, kR_18, kR_19, kR_20, kR_21, kR_22, kR_23, pR_0, pR_5, pR_6, pR_8, pR_11, pR_16, pR_17, pR_18, pR_21, pR_22, pR_23, pR_24, pR_26, pR_28, pR_29, pR_30, pR_33, pR_34, pR_35, pR_38, pR_41, pR_42, pR_43, g4]
      exact hQ _ _ _ (fin _)
    | succ m ih =>
      intro k hk hk1 hno
      have g4 : ¬ (4 : Int) ≤ (k : Int) := by omega
      have en := EqW_i (w32n (show k < 1000000 by omega))
      obtain ⟨x, P', N2, hE, rfl, rfl, hx⟩ := can k (by omega) d (by omega)
      have z0 : (0 : Int) = ((0 : Nat) : Int) := rfl
      rw [s_225_99]
      simp only [s_225_0, s_225_1, s_225_2, s_225_5, s_225_6, s_225_10, s_225_13, s_225_14, s_225_15, s_225_16, s_225_17, s_225_20, s_225_24, s_225_27, s_225_28, s_225_29, s_225_30, s_225_33, s_225_34, s_225_35, s_225_36, s_225_39, s_225_40, s_225_41, s_225_44, s_225_46, s_225_47, s_225_48, s_225_49, s_225_50, s_225_53, s_225_54, s_225_55, s_225_58, s_225_59, s_225_62, s_225_63, s_225_64, s_225_65, s_225_68, s_225_69, s_225_70, s_225_73, s_225_75, s_225_76, s_225_77, s_225_78, s_225_79, s_225_82, s_225_83, s_225_84, s_225_87, s_225_88, s_225_89, s_225_90, s_225_91, s_225_94, s_225_96, s_225_97, s_225_98, s_225_100, s_225_101, s_225_104, s_225_105, s_225_106, s_225_107, s_225_111, s_225_114, s_225_117, s_225_120, s_225_121, true_and, and_true, sc0, sc1, sc2, sc3, sc4, Option.toList, List.cons_append, List.nil_append, clr, ne_eq, not_false_eq_true, not_true_eq_false, false_and, and_false, true_or, or_true, or_false, false_or, forall_const, Nat.reduceEqDiff, List.length_nil, List.length_cons, Nat.zero_le, Nat.reduceAdd, Nat.reduceLeDiff, false_implies, true_implies, Int.reduceEq, Int.reduceNe, Int.reduceLT, Int.reduceLE, Int.reduceNeg, Int.reduceToNat, Int.toNat_natCast, Nat.reduceLT, and_self, Decidable.not_not, kR_1, kR_2, kR_3, kR_4, kR_5, kR_6, kR_7, kR_8, kR_9, kR_10, kR_11, kR_12, kR_13, kR_14, kR_15, kR_16, kR_17, kR_18, kR_19, kR_20, kR_21, kR_22, kR_23, pR_0, pR_5, pR_6, pR_8, pR_11, pR_16, pR_17, pR_18, pR_21, pR_22, pR_23, pR_24, pR_26, pR_28, pR_29, pR_30, pR_33, pR_34, pR_35, pR_38, pR_41, pR_42, pR_43, g4]
      rw [z0]
      refine s_225_108 (Nat.le_of_ble_eq_true rfl) kR_1 hE ?_
      rcases hx with ⟨rfl, hck⟩ | ⟨rfl, hck⟩
      · have hic := IsCut_of hL hsz hRch (by omega) hno (fun _ => hck)
        rw [mcV_e hic] at hQ
        simp only [s_225_0, s_225_1, s_225_2, s_225_5, s_225_6, s_225_10, s_225_13, s_225_14, s_225_15, s_225_16, s_225_17, s_225_20, s_225_24, s_225_27, s_225_28, s_225_29, s_225_30, s_225_33, s_225_34, s_225_35, s_225_36, s_225_39, s_225_40, s_225_41, s_225_44, s_225_46, s_225_47, s_225_48, s_225_49, s_225_50, s_225_53, s_225_54, s_225_55, s_225_58, s_225_59, s_225_62, s_225_63, s_225_64, s_225_65, s_225_68, s_225_69, s_225_70, s_225_73, s_225_75, s_225_76, s_225_77, s_225_78, s_225_79, s_225_82, s_225_83, s_225_84, s_225_87, s_225_88, s_225_89, s_225_90, s_225_91, s_225_94, s_225_96, s_225_97, s_225_98, s_225_100, s_225_101, s_225_104, s_225_105, s_225_106, s_225_107, s_225_111, s_225_114, s_225_117, s_225_120, s_225_121, true_and, and_true, sc0, sc1, sc2, sc3, sc4, Option.toList, List.cons_append, List.nil_append, clr, ne_eq, not_false_eq_true, not_true_eq_false, false_and, and_false, true_or, or_true, or_false, false_or, forall_const, Nat.reduceEqDiff, List.length_nil, List.length_cons, Nat.zero_le, Nat.reduceAdd, Nat.reduceLeDiff, false_implies, true_implies, Int.reduceEq, Int.reduceNe, Int.reduceLT, Int.reduceLE, Int.reduceNeg, Int.reduceToNat, Int.toNat_natCast, Nat.reduceLT, and_self, Decidable.not_not, kR_1, kR_2, kR_3, kR_4, kR_5, kR_6, kR_7, kR_8, kR_9, kR_10, kR_11, kR_12, kR_13, kR_14, kR_15, kR_16, kR_17, kR_18, kR_19, kR_20, kR_21, kR_22, kR_23, pR_0, pR_5, pR_6, pR_8, pR_11, pR_16, pR_17, pR_18, pR_21, pR_22, pR_23, pR_24, pR_26, pR_28, pR_29, pR_30, pR_33, pR_34, pR_35, pR_38, pR_41, pR_42, pR_43]
        exact hQ _ _ _ (fin _)
      · have := ih (k + 1) (by omega) (by omega) (fun j h1 h2 => by
          by_cases e : j = k
          · subst e; exact hck
          · exact hno j h1 (by omega))
        simp only [s_225_0, s_225_1, s_225_2, s_225_5, s_225_6, s_225_10, s_225_13, s_225_14, s_225_15, s_225_16, s_225_17, s_225_20, s_225_24, s_225_27, s_225_28, s_225_29, s_225_30, s_225_33, s_225_34, s_225_35, s_225_36, s_225_39, s_225_40, s_225_41, s_225_44, s_225_46, s_225_47, s_225_48, s_225_49, s_225_50, s_225_53, s_225_54, s_225_55, s_225_58, s_225_59, s_225_62, s_225_63, s_225_64, s_225_65, s_225_68, s_225_69, s_225_70, s_225_73, s_225_75, s_225_76, s_225_77, s_225_78, s_225_79, s_225_82, s_225_83, s_225_84, s_225_87, s_225_88, s_225_89, s_225_90, s_225_91, s_225_94, s_225_96, s_225_97, s_225_98, s_225_100, s_225_101, s_225_104, s_225_105, s_225_106, s_225_107, s_225_111, s_225_114, s_225_117, s_225_120, s_225_121, true_and, and_true, sc0, sc1, sc2, sc3, sc4, Option.toList, List.cons_append, List.nil_append, clr, ne_eq, not_false_eq_true, not_true_eq_false, false_and, and_false, true_or, or_true, or_false, false_or, forall_const, Nat.reduceEqDiff, List.length_nil, List.length_cons, Nat.zero_le, Nat.reduceAdd, Nat.reduceLeDiff, false_implies, true_implies, Int.reduceEq, Int.reduceNe, Int.reduceLT, Int.reduceLE, Int.reduceNeg, Int.reduceToNat, Int.toNat_natCast, Nat.reduceLT, and_self, Decidable.not_not, kR_1, kR_2, kR_3, kR_4, kR_5, kR_6, kR_7, kR_8, kR_9, kR_10, kR_11, kR_12, kR_13, kR_14, kR_15, kR_16, kR_17, kR_18, kR_19, kR_20, kR_21, kR_22, kR_23, pR_0, pR_5, pR_6, pR_8, pR_11, pR_16, pR_17, pR_18, pR_21, pR_22, pR_23, pR_24, pR_26, pR_28, pR_29, pR_30, pR_33, pR_34, pR_35, pR_38, pR_41, pR_42, pR_43, EqW_o en]
        exact this
  simp only [s_225_0, s_225_1, s_225_2, s_225_5, s_225_6, s_225_10, s_225_13, s_225_14, s_225_15, s_225_16, s_225_17, s_225_20, s_225_24, s_225_27, s_225_28, s_225_29, s_225_30, s_225_33, s_225_34, s_225_35, s_225_36, s_225_39, s_225_40, s_225_41, s_225_44, s_225_46, s_225_47, s_225_48, s_225_49, s_225_50, s_225_53, s_225_54, s_225_55, s_225_58, s_225_59, s_225_62, s_225_63, s_225_64, s_225_65, s_225_68, s_225_69, s_225_70, s_225_73, s_225_75, s_225_76, s_225_77, s_225_78, s_225_79, s_225_82, s_225_83, s_225_84, s_225_87, s_225_88, s_225_89, s_225_90, s_225_91, s_225_94, s_225_96, s_225_97, s_225_98, s_225_100, s_225_101, s_225_104, s_225_105, s_225_106, s_225_107, s_225_111, s_225_114, s_225_117, s_225_120, s_225_121, true_and, and_true, sc0, sc1, sc2, sc3, sc4, Option.toList, List.cons_append, List.nil_append, clr, ne_eq, not_false_eq_true, not_true_eq_false, false_and, and_false, true_or, or_true, or_false, false_or, forall_const, Nat.reduceEqDiff, List.length_nil, List.length_cons, Nat.zero_le, Nat.reduceAdd, Nat.reduceLeDiff, false_implies, true_implies, Int.reduceEq, Int.reduceNe, Int.reduceLT, Int.reduceLE, Int.reduceNeg, Int.reduceToNat, Int.toNat_natCast, Nat.reduceLT, and_self, Decidable.not_not, kR_1, kR_2, kR_3, kR_4, kR_5, kR_6, kR_7, kR_8, kR_9, kR_10, kR_11, kR_12, kR_13, kR_14, kR_15, kR_16, kR_17, kR_18, kR_19, kR_20, kR_21, kR_22, kR_23, pR_0, pR_5, pR_6, pR_8, pR_11, pR_16, pR_17, pR_18, pR_21, pR_22, pR_23, pR_24, pR_26, pR_28, pR_29, pR_30, pR_33, pR_34, pR_35, pR_38, pR_41, pR_42, pR_43, c2']
  exact main 3 1 rfl (by omega) (fun j h1 h2 => by omega)
end
theorem j_cut {t : Nat} {g : Int} : Jn t 101 225 [pI g] := Jn_q (fun M N b rd r c z n A B V u m F I h1 h2 h3 h4 => ⟨_, _, 6, 190, by decide, by decide, c_cut h1, r_cut h2⟩)
