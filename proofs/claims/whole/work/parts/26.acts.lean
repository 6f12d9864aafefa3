/-! the class's simple calls: acts that are remembered, undo, keep, again, print, forget, sign -/
/-- outside these cells nothing has changed -/
def same (M' M : MM) (S : List Nat) : Prop := ∀ p, p ∉ S → M' p = M p
section
variable {M : MM} {b : Bool}
/-- what Past holds: next and size -/
def pastI (M : MM) (n sz : Nat) : Prop := M 29 3 = (n : Int) ∧ n < 12 ∧ M 29 4 = (sz : Int) ∧ sz ≤ 12
theorem c_remembered {r : Int} {n sz : Nat} (hp : pastI M n sz) : Cw 3 75 [pR 1, pI r] LC (PC b) M (fun r' P' M' => r' = some (pI r) ∧ P' = PC b ∧ if r < 0 then M' = M else eqS M' (33 + 8 * n) M 21 ∧ pastI M' ((n + 1) % 12) (min (sz + 1) 12) ∧ ∀ p, p ≠ 29 → (p < 33 + 8 * n ∨ 41 + 8 * n ≤ p) → M' p = M p) := by
  obtain ⟨h1, h2, h3, h4⟩ := hp
  refine Cw_r [some (pR 1), some (pI r)] (Nat.le_of_ble_eq_true rfl) rfl (fun d hd => ?_)
  by_cases hr : r < 0
  · refine ⟨_, _, M, fun Q X hq => ?_, rfl, rfl, by rw [if_pos hr]⟩
    simp only [s_75_0, s_75_1, s_75_4, s_75_5, s_75_8, s_75_9, s_75_15, s_75_16, true_and, and_true, sc0, sc1, sc2, sc3, sc4, Option.toList, List.cons_append, List.nil_append, clr, ne_eq, not_false_eq_true, not_true_eq_false, false_and, and_false, true_or, or_true, or_false, false_or, forall_const, Nat.reduceEqDiff, List.length_nil, List.length_cons, Nat.zero_le, Nat.reduceAdd, Nat.reduceLeDiff, false_implies, true_implies, Int.reduceEq, Int.reduceNe, Int.reduceLT, Int.reduceLE, Int.reduceNeg, Int.reduceToNat, Int.toNat_natCast, Nat.reduceLT, and_self, Decidable.not_not, hr]
    exact hq
  · obtain ⟨r', P', M', hE, rfl, rfl, e1, e2, e3, e4⟩ := c_push (b := b) (M := M) (q := 21) before_st (fun i hi => by omega) h1 h2 h3 h4 d (by omega)
    refine ⟨some (pI r), PC b, M', fun Q X hq => ?_, rfl, rfl, ?_⟩
    · simp only [s_75_0, s_75_1, s_75_4, s_75_5, s_75_8, s_75_9, s_75_15, s_75_16, true_and, and_true, sc0, sc1, sc2, sc3, sc4, Option.toList, List.cons_append, List.nil_append, clr, ne_eq, not_false_eq_true, not_true_eq_false, false_and, and_false, true_or, or_true, or_false, false_or, forall_const, Nat.reduceEqDiff, List.length_nil, List.length_cons, Nat.zero_le, Nat.reduceAdd, Nat.reduceLeDiff, false_implies, true_implies, Int.reduceEq, Int.reduceNe, Int.reduceLT, Int.reduceLE, Int.reduceNeg, Int.reduceToNat, Int.toNat_natCast, Nat.reduceLT, and_self, Decidable.not_not, hr, kC_1, pC_1_6, pC_1_5]
      refine s_75_12 (Nat.le_of_ble_eq_true rfl) kC_29 hE ?_
      simp only [s_75_0, s_75_1, s_75_4, s_75_5, s_75_8, s_75_9, s_75_15, s_75_16, true_and, and_true, sc0, sc1, sc2, sc3, sc4, Option.toList, List.cons_append, List.nil_append, clr, ne_eq, not_false_eq_true, not_true_eq_false, false_and, and_false, true_or, or_true, or_false, false_or, forall_const, Nat.reduceEqDiff, List.length_nil, List.length_cons, Nat.zero_le, Nat.reduceAdd, Nat.reduceLeDiff, false_implies, true_implies, Int.reduceEq, Int.reduceNe, Int.reduceLT, Int.reduceLE, Int.reduceNeg, Int.reduceToNat, Int.toNat_natCast, Nat.reduceLT, and_self, Decidable.not_not]
      exact hq
    · rw [if_neg hr]
      exact ⟨e1, ⟨e2, Nat.mod_lt _ (by decide), e3, by omega⟩, e4⟩
theorem c_pop {n sz : Nat} (hp : pastI M n sz) : Cw 2 90 [pR 29, pR 5] LC (PC b) M (fun r' P' M' => P' = PC b ∧ if sz = 0 then r' = some (pI (-1)) ∧ M' = M else r' = some (pI ((sz - 1 : Nat) : Int)) ∧ eqS M' 5 M (33 + 8 * ((n + 11) % 12)) ∧ pastI M' ((n + 11) % 12) (sz - 1) ∧ ∀ p, p ≠ 29 → (p < 5 ∨ 13 ≤ p) → M' p = M p) := by
  obtain ⟨h1, h2, h3, h4⟩ := hp
  refine Cw_r [some (pR 29), some (pR 5)] (Nat.le_of_ble_eq_true rfl) rfl (fun d hd => ?_)
  by_cases hs : sz = 0
  · refine ⟨some (pI (-1)), PC b, M, fun Q X hq => ?_, rfl, by rw [if_pos hs]; exact ⟨rfl, rfl⟩⟩
    simp only [s_90_0, s_90_1, s_90_4, s_90_7, s_90_8, s_90_9, s_90_10, s_90_11, s_90_14, s_90_16, s_90_17, s_90_18, s_90_19, s_90_21, s_90_22, s_90_25, s_90_26, s_90_27, s_90_30, s_90_31, s_90_34, s_90_38, s_90_39I, s_90_39, s_90_40, s_90_43, s_90_44, s_90_45, s_90_48, s_90_49, s_90_52, true_and, and_true, sc0, sc1, sc2, sc3, sc4, Option.toList, List.cons_append, List.nil_append, clr, ne_eq, not_false_eq_true, not_true_eq_false, false_and, and_false, true_or, or_true, or_false, false_or, forall_const, Nat.reduceEqDiff, List.length_nil, List.length_cons, Nat.zero_le, Nat.reduceAdd, Nat.reduceLeDiff, false_implies, true_implies, Int.reduceEq, Int.reduceNe, Int.reduceLT, Int.reduceLE, Int.reduceNeg, Int.reduceToNat, Int.toNat_natCast, Nat.reduceLT, and_self, Decidable.not_not, kC_29, h3, show (sz : Int) = 0 by omega]
    exact hq
  · have hm : (n + 11) % 12 < 12 := Nat.mod_lt _ (by decide)
    have em : (w32 (w32 ((n : Int) + 12) - 1)).tmod 12 = (((n + 11) % 12 : Nat) : Int) := by
      have : w32 (w32 ((n : Int) + 12) - 1) = (n : Int) + 11 := by unfold w32; omega
      rw [this, Int.tmod_eq_emod_of_nonneg (by omega)]
      omega
    obtain ⟨r', P', M', hE, rfl, rfl, e1, e2⟩ := c_take (b := b) (M := uM M 29 3 (((n + 11) % 12 : Nat) : Int)) (o := 5) (q := 33 + 8 * ((n + 11) % 12)) now_st (un_st hm) (by omega) d (by omega)
    have e29 : M' 29 = uM M 29 3 (((n + 11) % 12 : Nat) : Int) 29 := e2 29 (by omega)
    have ew : w32 ((sz : Int) - 1) = ((sz - 1 : Nat) : Int) := by unfold w32; omega
    refine ⟨some (pI ((sz - 1 : Nat) : Int)), PC b, uM M' 29 4 ((sz - 1 : Nat) : Int), fun Q X hq => ?_, rfl, ?_⟩
    · simp only [s_90_0, s_90_1, s_90_4, s_90_7, s_90_8, s_90_9, s_90_10, s_90_11, s_90_14, s_90_16, s_90_17, s_90_18, s_90_19, s_90_21, s_90_22, s_90_25, s_90_26, s_90_27, s_90_30, s_90_31, s_90_34, s_90_38, s_90_39I, s_90_39, s_90_40, s_90_43, s_90_44, s_90_45, s_90_48, s_90_49, s_90_52, true_and, and_true, sc0, sc1, sc2, sc3, sc4, Option.toList, List.cons_append, List.nil_append, clr, ne_eq, not_false_eq_true, not_true_eq_false, false_and, and_false, true_or, or_true, or_false, false_or, forall_const, Nat.reduceEqDiff, List.length_nil, List.length_cons, Nat.zero_le, Nat.reduceAdd, Nat.reduceLeDiff, false_implies, true_implies, Int.reduceEq, Int.reduceNe, Int.reduceLT, Int.reduceLE, Int.reduceNeg, Int.reduceToNat, Int.toNat_natCast, Nat.reduceLT, and_self, Decidable.not_not, kC_29, kC_30, pC_29_0, h1, h3, show ¬ (sz : Int) = 0 by omega, em, uM_at, if_true, un_at hm, show ((0 : Int) ≤ (((n + 11) % 12 : Nat) : Int)) by omega, show ((((n + 11) % 12 : Nat) : Int) < ((12 : Nat) : Int)) by omega, show ¬ 33 + 8 * ((n + 11) % 12) = 0 by omega]
      refine s_90_35 (Nat.le_of_ble_eq_true rfl) kC_5 hE ?_
      simp only [s_90_0, s_90_1, s_90_4, s_90_7, s_90_8, s_90_9, s_90_10, s_90_11, s_90_14, s_90_16, s_90_17, s_90_18, s_90_19, s_90_21, s_90_22, s_90_25, s_90_26, s_90_27, s_90_30, s_90_31, s_90_34, s_90_38, s_90_39I, s_90_39, s_90_40, s_90_43, s_90_44, s_90_45, s_90_48, s_90_49, s_90_52, true_and, and_true, sc0, sc1, sc2, sc3, sc4, Option.toList, List.cons_append, List.nil_append, clr, ne_eq, not_false_eq_true, not_true_eq_false, false_and, and_false, true_or, or_true, or_false, false_or, forall_const, Nat.reduceEqDiff, List.length_nil, List.length_cons, Nat.zero_le, Nat.reduceAdd, Nat.reduceLeDiff, false_implies, true_implies, Int.reduceEq, Int.reduceNe, Int.reduceLT, Int.reduceLE, Int.reduceNeg, Int.reduceToNat, Int.toNat_natCast, Nat.reduceLT, and_self, Decidable.not_not, kC_29, e29, uM_at, if_true, if_false, show ¬ (4 : Nat) = 3 by decide, h3, ew]
      exact hq
    · rw [if_neg hs]
      obtain ⟨a1, a2, a3, a4, a5⟩ := e1
      have nz : ∀ x, x ≠ 29 → uM M 29 3 (((n + 11) % 12 : Nat) : Int) x = M x := fun x hx => uM_ne hx
      refine ⟨rfl, ⟨fun k hk => ?_, fun k hk => ?_, ?_, ?_, ?_⟩, ⟨?_, hm, ?_, by omega⟩, fun p hp hp2 => ?_⟩
      · have := a1 k hk
        rw [nz _ (by omega), nz _ (by omega)] at this
        rw [uM_ne (by omega), uM_ne (by omega)]; exact this
      · have := a2 k hk
        rw [nz _ (by omega), nz _ (by omega), nz _ (by omega), nz _ (by omega), nz _ (by omega)] at this
        rw [uM_ne (by omega), uM_ne (by omega), uM_ne (by omega), uM_ne (by omega), uM_ne (by omega)]; exact this
      · rw [uM_ne (by omega), a3, nz _ (by omega)]
      · rw [uM_ne (by omega), a4, nz _ (by omega)]
      · rw [uM_ne (by omega), a5, nz _ (by omega)]
      · rw [uM_at, e29]; simp [uM_at]
      · simp [uM_at]
      · rw [uM_ne hp, e2 p (by omega), nz p hp]
theorem c_undo {n sz : Nat} (hp : pastI M n sz) : Cw 3 89 [pR 1] LC (PC b) M (fun r' P' M' => P' = PC b ∧ if sz = 0 then r' = some (pI (-1)) ∧ M' = M else r' = some (pI ((sz - 1 : Nat) : Int)) ∧ eqS M' 5 M (33 + 8 * ((n + 11) % 12)) ∧ pastI M' ((n + 11) % 12) (sz - 1) ∧ ∀ p, p ≠ 29 → (p < 5 ∨ 13 ≤ p) → M' p = M p) := by
  refine Cw_r [some (pR 1)] (Nat.le_of_ble_eq_true rfl) rfl (fun d hd => ?_)
  obtain ⟨r', P', M', hE, rfl, e⟩ := c_pop (b := b) hp d (by omega)
  obtain ⟨x, rfl⟩ : ∃ x, r' = some (pI x) := by
    by_cases hs : sz = 0
    · rw [if_pos hs] at e; exact ⟨_, e.1⟩
    · rw [if_neg hs] at e; exact ⟨_, e.1⟩
  refine ⟨some (pI x), PC b, M', fun Q X hq => ?_, rfl, e⟩
  simp only [s_89_0, s_89_1, s_89_4, s_89_5, s_89_11, true_and, and_true, sc0, sc1, sc2, sc3, sc4, Option.toList, List.cons_append, List.nil_append, clr, ne_eq, not_false_eq_true, not_true_eq_false, false_and, and_false, true_or, or_true, or_false, false_or, forall_const, Nat.reduceEqDiff, List.length_nil, List.length_cons, Nat.zero_le, Nat.reduceAdd, Nat.reduceLeDiff, false_implies, true_implies, Int.reduceEq, Int.reduceNe, Int.reduceLT, Int.reduceLE, Int.reduceNeg, Int.reduceToNat, Int.toNat_natCast, Nat.reduceLT, and_self, Decidable.not_not, kC_1, pC_1_6, pC_1_3]
  refine s_89_8 (Nat.le_of_ble_eq_true rfl) kC_29 hE ?_
  simp only [s_89_0, s_89_1, s_89_4, s_89_5, s_89_11, true_and, and_true, sc0, sc1, sc2, sc3, sc4, Option.toList, List.cons_append, List.nil_append, clr, ne_eq, not_false_eq_true, not_true_eq_false, false_and, and_false, true_or, or_true, or_false, false_or, forall_const, Nat.reduceEqDiff, List.length_nil, List.length_cons, Nat.zero_le, Nat.reduceAdd, Nat.reduceLeDiff, false_implies, true_implies, Int.reduceEq, Int.reduceNe, Int.reduceLT, Int.reduceLE, Int.reduceNeg, Int.reduceToNat, Int.toNat_natCast, Nat.reduceLT, and_self, Decidable.not_not]
  exact hq
theorem c_keep {i : Int} : Cw 3 148 [pR 1, pI i] LC (PC b) M (fun r' P' M' => P' = PC b ∧ if i < 0 ∨ 2 ≤ i then r' = some (pI 0) ∧ M' = M else r' = some (pI 1) ∧ eqS M' (129 + 8 * i.toNat) M 5 ∧ M' 32 i.toNat = 1 ∧ (∀ j, j ≠ i.toNat → M' 32 j = M 32 j) ∧ ∀ p, p ≠ 32 → (p < 129 + 8 * i.toNat ∨ 137 + 8 * i.toNat ≤ p) → M' p = M p) := by
  refine Cw_r [some (pR 1), some (pI i)] (Nat.le_of_ble_eq_true rfl) rfl (fun d hd => ?_)
  have key : Cw 2 149 [pR 29, pI i, pR 5] LC (PC b) M (fun r' P' M' => P' = PC b ∧ if i < 0 ∨ 2 ≤ i then r' = some (pI 0) ∧ M' = M else r' = some (pI 1) ∧ eqS M' (129 + 8 * i.toNat) M 5 ∧ M' 32 i.toNat = 1 ∧ (∀ j, j ≠ i.toNat → M' 32 j = M 32 j) ∧ ∀ p, p ≠ 32 → (p < 129 + 8 * i.toNat ∨ 137 + 8 * i.toNat ≤ p) → M' p = M p) := by
    refine Cw_r [some (pR 29), some (pI i), some (pR 5)] (Nat.le_of_ble_eq_true rfl) rfl (fun d hd => ?_)
    by_cases h : i < 0 ∨ 2 ≤ i
    · refine ⟨some (pI 0), PC b, M, fun Q X hq => ?_, rfl, by rw [if_pos h]; exact ⟨rfl, rfl⟩⟩
      by_cases h0 : i < 0
      · simp only [s_149_0, s_149_1, s_149_4, s_149_5, s_149_6, s_149_9, s_149_10, s_149_11, s_149_12, s_149_15, s_149_16, s_149_17, s_149_21, s_149_22, s_149_25, s_149_26, s_149_27, s_149_28, s_149_29, true_and, and_true, sc0, sc1, sc2, sc3, sc4, Option.toList, List.cons_append, List.nil_append, clr, ne_eq, not_false_eq_true, not_true_eq_false, false_and, and_false, true_or, or_true, or_false, false_or, forall_const, Nat.reduceEqDiff, List.length_nil, List.length_cons, Nat.zero_le, Nat.reduceAdd, Nat.reduceLeDiff, false_implies, true_implies, Int.reduceEq, Int.reduceNe, Int.reduceLT, Int.reduceLE, Int.reduceNeg, Int.reduceToNat, Int.toNat_natCast, Nat.reduceLT, and_self, Decidable.not_not, h0]
        exact hq
      · simp only [s_149_0, s_149_1, s_149_4, s_149_5, s_149_6, s_149_9, s_149_10, s_149_11, s_149_12, s_149_15, s_149_16, s_149_17, s_149_21, s_149_22, s_149_25, s_149_26, s_149_27, s_149_28, s_149_29, true_and, and_true, sc0, sc1, sc2, sc3, sc4, Option.toList, List.cons_append, List.nil_append, clr, ne_eq, not_false_eq_true, not_true_eq_false, false_and, and_false, true_or, or_true, or_false, false_or, forall_const, Nat.reduceEqDiff, List.length_nil, List.length_cons, Nat.zero_le, Nat.reduceAdd, Nat.reduceLeDiff, false_implies, true_implies, Int.reduceEq, Int.reduceNe, Int.reduceLT, Int.reduceLE, Int.reduceNeg, Int.reduceToNat, Int.toNat_natCast, Nat.reduceLT, and_self, Decidable.not_not, h0, show ¬ i < 2 by omega]
        exact hq
    · obtain ⟨r', P', M', hE, rfl, rfl, e1, e2⟩ := c_take (b := b) (M := M) (o := 129 + 8 * i.toNat) (q := 5) (ke_st (by omega)) now_st (by omega) d (by omega)
      refine ⟨some (pI 1), PC b, uM M' 32 i.toNat 1, fun Q X hq => ?_, rfl, ?_⟩
      · simp only [s_149_0, s_149_1, s_149_4, s_149_5, s_149_6, s_149_9, s_149_10, s_149_11, s_149_12, s_149_15, s_149_16, s_149_17, s_149_21, s_149_22, s_149_25, s_149_26, s_149_27, s_149_28, s_149_29, true_and, and_true, sc0, sc1, sc2, sc3, sc4, Option.toList, List.cons_append, List.nil_append, clr, ne_eq, not_false_eq_true, not_true_eq_false, false_and, and_false, true_or, or_true, or_false, false_or, forall_const, Nat.reduceEqDiff, List.length_nil, List.length_cons, Nat.zero_le, Nat.reduceAdd, Nat.reduceLeDiff, false_implies, true_implies, Int.reduceEq, Int.reduceNe, Int.reduceLT, Int.reduceLE, Int.reduceNeg, Int.reduceToNat, Int.toNat_natCast, Nat.reduceLT, and_self, Decidable.not_not, show ¬ i < 0 by omega, show i < 2 by omega, kC_29, kC_31, pC_29_1, ke_at (show i.toNat < 2 by omega), show 0 ≤ i by omega, show i < ((2 : Nat) : Int) by omega, show ¬ 129 + 8 * i.toNat = 0 by omega]
        refine s_149_18 (Nat.le_of_ble_eq_true rfl) (st_k (ke_st (by omega))) hE ?_
        simp only [s_149_0, s_149_1, s_149_4, s_149_5, s_149_6, s_149_9, s_149_10, s_149_11, s_149_12, s_149_15, s_149_16, s_149_17, s_149_21, s_149_22, s_149_25, s_149_26, s_149_27, s_149_28, s_149_29, true_and, and_true, sc0, sc1, sc2, sc3, sc4, Option.toList, List.cons_append, List.nil_append, clr, ne_eq, not_false_eq_true, not_true_eq_false, false_and, and_false, true_or, or_true, or_false, false_or, forall_const, Nat.reduceEqDiff, List.length_nil, List.length_cons, Nat.zero_le, Nat.reduceAdd, Nat.reduceLeDiff, false_implies, true_implies, Int.reduceEq, Int.reduceNe, Int.reduceLT, Int.reduceLE, Int.reduceNeg, Int.reduceToNat, Int.toNat_natCast, Nat.reduceLT, and_self, Decidable.not_not, kC_29, kC_32, pC_29_2, show 0 ≤ i by omega, show i < ((2 : Nat) : Int) by omega]
        simpa using hq
      · rw [if_neg h]
        obtain ⟨a1, a2, a3, a4, a5⟩ := e1
        have e32 : M' 32 = M 32 := e2 32 (by omega)
        refine ⟨rfl, ⟨fun k hk => ?_, fun k hk => ?_, ?_, ?_, ?_⟩, by simp [uM_at], fun j hj => by simp [uM_at, hj, e32], fun p hp hp2 => ?_⟩
        · rw [uM_ne (by omega), uM_ne (by omega)]; exact a1 k hk
        · rw [uM_ne (by omega), uM_ne (by omega), uM_ne (by omega), uM_ne (by omega), uM_ne (by omega)]; exact a2 k hk
        · rw [uM_ne (by omega)]; exact a3
        · rw [uM_ne (by omega)]; exact a4
        · rw [uM_ne (by omega)]; exact a5
        · rw [uM_ne hp]; exact e2 p (by omega)
  obtain ⟨r', P', M', hE, rfl, e⟩ := key d (by omega)
  obtain ⟨x, rfl, hx⟩ : ∃ x, r' = some (pI x) ∧ (x = 0 ∨ x = 1) := by
    by_cases hs : i < 0 ∨ 2 ≤ i
    · rw [if_pos hs] at e; exact ⟨_, e.1, Or.inl rfl⟩
    · rw [if_neg hs] at e; exact ⟨_, e.1, Or.inr rfl⟩
  refine ⟨some (pI x), PC b, M', fun Q X hq => ?_, rfl, e⟩
  simp only [s_148_0, s_148_1, s_148_4, s_148_5, s_148_6, s_148_12, true_and, and_true, sc0, sc1, sc2, sc3, sc4, Option.toList, List.cons_append, List.nil_append, clr, ne_eq, not_false_eq_true, not_true_eq_false, false_and, and_false, true_or, or_true, or_false, false_or, forall_const, Nat.reduceEqDiff, List.length_nil, List.length_cons, Nat.zero_le, Nat.reduceAdd, Nat.reduceLeDiff, false_implies, true_implies, Int.reduceEq, Int.reduceNe, Int.reduceLT, Int.reduceLE, Int.reduceNeg, Int.reduceToNat, Int.toNat_natCast, Nat.reduceLT, and_self, Decidable.not_not, kC_1, pC_1_6, pC_1_3]
  refine s_148_9 (Nat.le_of_ble_eq_true rfl) kC_29 hE ?_
  simp only [s_148_0, s_148_1, s_148_4, s_148_5, s_148_6, s_148_12, true_and, and_true, sc0, sc1, sc2, sc3, sc4, Option.toList, List.cons_append, List.nil_append, clr, ne_eq, not_false_eq_true, not_true_eq_false, false_and, and_false, true_or, or_true, or_false, false_or, forall_const, Nat.reduceEqDiff, List.length_nil, List.length_cons, Nat.zero_le, Nat.reduceAdd, Nat.reduceLeDiff, false_implies, true_implies, Int.reduceEq, Int.reduceNe, Int.reduceLT, Int.reduceLE, Int.reduceNeg, Int.reduceToNat, Int.toNat_natCast, Nat.reduceLT, and_self, Decidable.not_not]
  exact ⟨hx, hq⟩
end
