/-! the flood of the reference -/
theorem lCmp_0 {x y : Int} : lCmp x y = 0 ↔ x = y := by
  unfold lCmp
  split
  · omega
  · split <;> omega
theorem bsd_1r {c z f d : Nat} : bsd c z f d = -1 ∨ 0 ≤ bsd c z f d := by
  unfold bsd
  split
  · split <;> omega
  · split
    · split
      · omega
      · rename_i g
        rcases Nat.eq_zero_or_pos f with e | e
        · subst e; exact absurd (Nat.zero_mod c) g
        · omega
    · split
      · split <;> omega
      · split <;> omega
theorem sg4_s {d : Nat} (h : d < 4) : ∃ h, h < 4 ∧ sg4 h = d := by
  have : d = 0 ∨ d = 1 ∨ d = 2 ∨ d = 3 := by omega
  rcases this with rfl | rfl | rfl | rfl
  · exact ⟨0, by decide, rfl⟩
  · exact ⟨3, by decide, rfl⟩
  · exact ⟨1, by decide, rfl⟩
  · exact ⟨2, by decide, rfl⟩
theorem sg4_l {h : Nat} : sg4 h < 4 := by unfold sg4; split <;> (try split) <;> (try split) <;> decide
section
variable {M : MM} {rd ru r c z n s : Nat} {p : Nat → Bool}
theorem r_flood (hD : RD M r c n) (hzr : z = r * c) (hL : Lnd c z) (hp : ∀ f, f < z → (0 < M 10 f ↔ p f = true)) (hs : s < z) : Ct 3 227 [pR 1, pI (s : Int)] LR (PR rd ru) M (some (pL ((bs (rcB c z p s) z : Nat) : Int))) (PR rd ru) M := by
  refine Ct_r [some (pR 1), some (pI (s : Int)), none, none, none, none, none, none, none] (Nat.le_of_ble_eq_true rfl) rfl (fun d hd Q X hq => ?_)
  have hz36 : z ≤ 36 := hL.2.2.1
  have hfi := r_fields (rd := rd) (ru := ru) hD
  rw [← hzr] at hfi
  let W : Nat → Prop := fun x => x < 2 ^ 36 ∧ (∀ f, x.testBit f = true → Rch c z (fun f => p f = true) s f) ∧ (p s = true → x.testBit s = true)
  let Cl : Nat → Prop := fun x => ∀ f, x.testBit f = true → ∀ m, Nbr c z f m → p m = true → x.testBit m = true
  have hend : ∀ x, W x → Cl x → x = bs (rcB c z p s) z := by
    intro x hx hc
    apply Nat.eq_of_testBit_eq
    intro f
    rw [bs_bit]
    by_cases hR : Rch c z (fun f => p f = true) s f
    · have : x.testBit f = true := hR.2 (fun f => x.testBit f = true) (hx.2.2 hR.1) (fun f m q _ hN hm => hc f q m hN hm)
      rw [this]; simp [rcB_t.mpr hR, (Rch_lt hL hs hR).1]
    · cases hxf : x.testBit f
      · simp [rcB_f hR]
      · exact absurd (hx.2.1 f hxf) hR
  have main : ∀ x0 : Nat, W x0 → wpB (Ev d) 227 Q X 22 [some (pR 1), some (pI (s : Int)), some (pL (x0 : Int)), none, some (pL (-1)), none, none, none, none] [] (kz LR) (PR rd ru) M := by
    intro x0 hx0
    refine lup (α := Nat × Int × Option PV × Option PV × Option PV) (I := fun i y => W y.1 ∧ ((y.1 : Int) = y.2.1 → Cl y.1) ∧ ((y.1 : Int) ≠ y.2.1 → i ≤ cnt y.1.testBit z)) (G := fun i y => wpB (Ev d) 227 Q X 22 [some (pR 1), some (pI (s : Int)), some (pL (y.1 : Int)), none, some (pL y.2.1), none, y.2.2.1, y.2.2.2.1, y.2.2.2.2] [] (kz LR) (PR rd ru) M) (z + 1) (fun y hy => ?_) (fun i y hi hy ih => ?_) 0 (x0, -1, none, none, none) (Nat.zero_le _) ⟨hx0, fun e => absurd e (by show ¬ (x0 : Int) = -1; omega), fun _ => Nat.zero_le _⟩
    · obtain ⟨x, o, y6, y7, y8⟩ := y
      obtain ⟨a1, a2, a3⟩ := hy
      dsimp only at a1 a2 a3 ⊢
      have e : (x : Int) = o := by
        apply Classical.byContradiction
        intro w
        have h1 := a3 w
        have h2 := cnt_le x.testBit z
        omega
      have ec : EqW (lCmp (x : Int) o) (0) := EqW_i <| lCmp_0.mpr e
      rw [hend x a1 (a2 e)] at ec ⊢
      rw [s_227_22]
      simp only [s_227_0, s_227_1, s_227_4, s_227_5, s_227_6, s_227_9, s_227_10, s_227_11, s_227_12, s_227_15, s_227_16, s_227_17, s_227_20, s_227_23, s_227_25, s_227_26, s_227_29, s_227_30, s_227_32, s_227_33, s_227_37, s_227_41, s_227_44, s_227_45, s_227_49, s_227_50, s_227_53, s_227_54, s_227_56, s_227_57, s_227_58, s_227_59, s_227_60, s_227_61, s_227_64, s_227_65, s_227_67, s_227_72, s_227_74, s_227_76, s_227_77, s_227_80, s_227_81, s_227_84, s_227_86, s_227_87, s_227_90, s_227_91, s_227_92, s_227_94, s_227_95, s_227_96, s_227_97, s_227_100, s_227_103, s_227_106, s_227_109, s_227_112, s_227_113, true_and, and_true, sc0, sc1, sc2, sc3, sc4, Option.toList, List.cons_append, List.nil_append, clr, ne_eq, not_false_eq_true, not_true_eq_false, false_and, and_false, true_or, or_true, or_false, false_or, forall_const, Nat.reduceEqDiff, List.length_nil, List.length_cons, Nat.zero_le, Nat.reduceAdd, Nat.reduceLeDiff, false_implies, true_implies, Int.reduceEq, Int.reduceNe, Int.reduceLT, Int.reduceLE, Int.reduceNeg, Int.reduceToNat, Int.toNat_natCast, Nat.reduceLT, and_self, Decidable.not_not, kR_1, kR_2, kR_3, kR_4, kR_5, kR_6, kR_7, kR_8, kR_9, kR_10, kR_11, kR_12, kR_13, kR_14, kR_15, kR_16, kR_17, kR_18, kR_19, kR_20, kR_21, kR_22, kR_23, pR_0, pR_5, pR_6, pR_8, pR_11, pR_16, pR_17, pR_18, pR_21, pR_22, pR_23, pR_24, pR_26, pR_28, pR_29, pR_30, pR_33, pR_34, pR_35, pR_38, pR_41, pR_42, pR_43, (EqW_o ec)]
      exact hq
    · obtain ⟨x, o, y6, y7, y8⟩ := y
      obtain ⟨a1, a2, a3⟩ := hy
      dsimp only at a1 a2 a3 ⊢
      by_cases e : (x : Int) = o
      · have ec : EqW (lCmp (x : Int) o) (0) := EqW_i <| lCmp_0.mpr e
        rw [hend x a1 (a2 e)] at ec ⊢
        rw [s_227_22]
        simp only [s_227_0, s_227_1, s_227_4, s_227_5, s_227_6, s_227_9, s_227_10, s_227_11, s_227_12, s_227_15, s_227_16, s_227_17, s_227_20, s_227_23, s_227_25, s_227_26, s_227_29, s_227_30, s_227_32, s_227_33, s_227_37, s_227_41, s_227_44, s_227_45, s_227_49, s_227_50, s_227_53, s_227_54, s_227_56, s_227_57, s_227_58, s_227_59, s_227_60, s_227_61, s_227_64, s_227_65, s_227_67, s_227_72, s_227_74, s_227_76, s_227_77, s_227_80, s_227_81, s_227_84, s_227_86, s_227_87, s_227_90, s_227_91, s_227_92, s_227_94, s_227_95, s_227_96, s_227_97, s_227_100, s_227_103, s_227_106, s_227_109, s_227_112, s_227_113, true_and, and_true, sc0, sc1, sc2, sc3, sc4, Option.toList, List.cons_append, List.nil_append, clr, ne_eq, not_false_eq_true, not_true_eq_false, false_and, and_false, true_or, or_true, or_false, false_or, forall_const, Nat.reduceEqDiff, List.length_nil, List.length_cons, Nat.zero_le, Nat.reduceAdd, Nat.reduceLeDiff, false_implies, true_implies, Int.reduceEq, Int.reduceNe, Int.reduceLT, Int.reduceLE, Int.reduceNeg, Int.reduceToNat, Int.toNat_natCast, Nat.reduceLT, and_self, Decidable.not_not, kR_1, kR_2, kR_3, kR_4, kR_5, kR_6, kR_7, kR_8, kR_9, kR_10, kR_11, kR_12, kR_13, kR_14, kR_15, kR_16, kR_17, kR_18, kR_19, kR_20, kR_21, kR_22, kR_23, pR_0, pR_5, pR_6, pR_8, pR_11, pR_16, pR_17, pR_18, pR_21, pR_22, pR_23, pR_24, pR_26, pR_28, pR_29, pR_30, pR_33, pR_34, pR_35, pR_38, pR_41, pR_42, pR_43, (EqW_o ec)]
        exact hq
      have ec : ¬ lCmp (x : Int) o = 0 := fun w => e (lCmp_0.mp w)
      have a3' := a3 e
      rw [s_227_22]
      simp only [s_227_0, s_227_1, s_227_4, s_227_5, s_227_6, s_227_9, s_227_10, s_227_11, s_227_12, s_227_15, s_227_16, s_227_17, s_227_20, s_227_23, s_227_25, s_227_26, s_227_29, s_227_30, s_227_32, s_227_33, s_227_37, s_227_41, s_227_44, s_227_45, s_227_49, s_227_50, s_227_53, s_227_54, s_227_56, s_227_57, s_227_58, s_227_59, s_227_60, s_227_61, s_227_64, s_227_65, s_227_67, s_227_72, s_227_74, s_227_76, s_227_77, s_227_80, s_227_81, s_227_84, s_227_86, s_227_87, s_227_90, s_227_91, s_227_92, s_227_94, s_227_95, s_227_96, s_227_97, s_227_100, s_227_103, s_227_106, s_227_109, s_227_112, s_227_113, true_and, and_true, sc0, sc1, sc2, sc3, sc4, Option.toList, List.cons_append, List.nil_append, clr, ne_eq, not_false_eq_true, not_true_eq_false, false_and, and_false, true_or, or_true, or_false, false_or, forall_const, Nat.reduceEqDiff, List.length_nil, List.length_cons, Nat.zero_le, Nat.reduceAdd, Nat.reduceLeDiff, false_implies, true_implies, Int.reduceEq, Int.reduceNe, Int.reduceLT, Int.reduceLE, Int.reduceNeg, Int.reduceToNat, Int.toNat_natCast, Nat.reduceLT, and_self, Decidable.not_not, kR_1, kR_2, kR_3, kR_4, kR_5, kR_6, kR_7, kR_8, kR_9, kR_10, kR_11, kR_12, kR_13, kR_14, kR_15, kR_16, kR_17, kR_18, kR_19, kR_20, kR_21, kR_22, kR_23, pR_0, pR_5, pR_6, pR_8, pR_11, pR_16, pR_17, pR_18, pR_21, pR_22, pR_23, pR_24, pR_26, pR_28, pR_29, pR_30, pR_33, pR_34, pR_35, pR_38, pR_41, pR_42, pR_43, ec]
      -- the round
      refine lup (α := Nat × Option PV × Option PV) (I := fun f y => W y.1 ∧ (∀ k, x.testBit k = true → y.1.testBit k = true) ∧ ∀ g, g < f → x.testBit g = true → ∀ h, h < 4 → ∀ m : Nat, bsd c z g (sg4 h) = (m : Int) → p m = true → y.1.testBit m = true) (G := fun f y => wpB (Ev d) 227 Q X 35 [some (pR 1), some (pI (s : Int)), some (pL (y.1 : Int)), none, some (pL (x : Int)), none, some (pI (f : Int)), y.2.1, y.2.2] [] (kz LR) (PR rd ru) M) z (fun y hy => ?_) (fun f y hf hy ihf => ?_) 0 (x, y7, y8) (Nat.zero_le _) ⟨a1, fun _ w => w, fun g hg => absurd hg (Nat.not_lt_zero _)⟩
      · obtain ⟨y, t7, t8⟩ := y
        obtain ⟨c1, c2, c3⟩ := hy
        dsimp only at c1 c2 c3 ⊢
        rw [s_227_35]
        simp only [s_227_0, s_227_1, s_227_4, s_227_5, s_227_6, s_227_9, s_227_10, s_227_11, s_227_12, s_227_15, s_227_16, s_227_17, s_227_20, s_227_23, s_227_25, s_227_26, s_227_29, s_227_30, s_227_32, s_227_33, s_227_37, s_227_41, s_227_44, s_227_45, s_227_49, s_227_50, s_227_53, s_227_54, s_227_56, s_227_57, s_227_58, s_227_59, s_227_60, s_227_61, s_227_64, s_227_65, s_227_67, s_227_72, s_227_74, s_227_76, s_227_77, s_227_80, s_227_81, s_227_84, s_227_86, s_227_87, s_227_90, s_227_91, s_227_92, s_227_94, s_227_95, s_227_96, s_227_97, s_227_100, s_227_103, s_227_106, s_227_109, s_227_112, s_227_113, true_and, and_true, sc0, sc1, sc2, sc3, sc4, Option.toList, List.cons_append, List.nil_append, clr, ne_eq, not_false_eq_true, not_true_eq_false, false_and, and_false, true_or, or_true, or_false, false_or, forall_const, Nat.reduceEqDiff, List.length_nil, List.length_cons, Nat.zero_le, Nat.reduceAdd, Nat.reduceLeDiff, false_implies, true_implies, Int.reduceEq, Int.reduceNe, Int.reduceLT, Int.reduceLE, Int.reduceNeg, Int.reduceToNat, Int.toNat_natCast, Nat.reduceLT, and_self, Decidable.not_not, kR_1, kR_2, kR_3, kR_4, kR_5, kR_6, kR_7, kR_8, kR_9, kR_10, kR_11, kR_12, kR_13, kR_14, kR_15, kR_16, kR_17, kR_18, kR_19, kR_20, kR_21, kR_22, kR_23, pR_0, pR_5, pR_6, pR_8, pR_11, pR_16, pR_17, pR_18, pR_21, pR_22, pR_23, pR_24, pR_26, pR_28, pR_29, pR_30, pR_33, pR_34, pR_35, pR_38, pR_41, pR_42, pR_43]
        refine s_227_38 (Nat.le_of_ble_eq_true rfl) kR_1 (hfi d (by omega)) ?_
        simp only [s_227_0, s_227_1, s_227_4, s_227_5, s_227_6, s_227_9, s_227_10, s_227_11, s_227_12, s_227_15, s_227_16, s_227_17, s_227_20, s_227_23, s_227_25, s_227_26, s_227_29, s_227_30, s_227_32, s_227_33, s_227_37, s_227_41, s_227_44, s_227_45, s_227_49, s_227_50, s_227_53, s_227_54, s_227_56, s_227_57, s_227_58, s_227_59, s_227_60, s_227_61, s_227_64, s_227_65, s_227_67, s_227_72, s_227_74, s_227_76, s_227_77, s_227_80, s_227_81, s_227_84, s_227_86, s_227_87, s_227_90, s_227_91, s_227_92, s_227_94, s_227_95, s_227_96, s_227_97, s_227_100, s_227_103, s_227_106, s_227_109, s_227_112, s_227_113, true_and, and_true, sc0, sc1, sc2, sc3, sc4, Option.toList, List.cons_append, List.nil_append, clr, ne_eq, not_false_eq_true, not_true_eq_false, false_and, and_false, true_or, or_true, or_false, false_or, forall_const, Nat.reduceEqDiff, List.length_nil, List.length_cons, Nat.zero_le, Nat.reduceAdd, Nat.reduceLeDiff, false_implies, true_implies, Int.reduceEq, Int.reduceNe, Int.reduceLT, Int.reduceLE, Int.reduceNeg, Int.reduceToNat, Int.toNat_natCast, Nat.reduceLT, and_self, Decidable.not_not, kR_1, kR_2, kR_3, kR_4, kR_5, kR_6, kR_7, kR_8, kR_9, kR_10, kR_11, kR_12, kR_13, kR_14, kR_15, kR_16, kR_17, kR_18, kR_19, kR_20, kR_21, kR_22, kR_23, pR_0, pR_5, pR_6, pR_8, pR_11, pR_16, pR_17, pR_18, pR_21, pR_22, pR_23, pR_24, pR_26, pR_28, pR_29, pR_30, pR_33, pR_34, pR_35, pR_38, pR_41, pR_42, pR_43, Int.le_refl]
        refine ih (y, (x : Int), _, _, _) ⟨c1, fun w => ?_, fun w => ?_⟩
        · have w' : y = x := by
            have : (y : Int) = (x : Int) := w
            omega
          show Cl y
          intro f hf m hN hm
          have hfz : f < z := (Rch_lt hL hs (c1.2.1 f hf)).1
          obtain ⟨dd, hd4, hb⟩ := hN
          obtain ⟨h9, hh9, rfl⟩ := sg4_s hd4
          rw [w'] at hf
          exact c3 f hfz hf h9 hh9 m hb hm
        · have w' : ¬ y = x := fun q => w (by show (y : Int) = (x : Int); rw [q])
          have : ∃ k, x.testBit k = false ∧ y.testBit k = true := by
            apply Classical.byContradiction
            intro hno
            apply w'
            apply Nat.eq_of_testBit_eq
            intro k
            cases hy : y.testBit k
            · cases hx : x.testBit k
              · rfl
              · exact absurd (c2 k hx) (by rw [hy]; decide)
            · cases hx : x.testBit k
              · exact absurd ⟨k, hx, hy⟩ hno
              · rfl
          obtain ⟨k, h1, h2⟩ := this
          have := cnt_lt z (fun f _ => c2 f) k (Rch_lt hL hs (c1.2.1 k h2)).1 h1 h2
          show i + 1 ≤ cnt y.testBit z
          omega
      · obtain ⟨y, t7, t8⟩ := y
        obtain ⟨c1, c2, c3⟩ := hy
        dsimp only at c1 c2 c3 ⊢
        have e0 : ¬ (z : Int) ≤ (f : Int) := by omega
        rw [s_227_35]
        simp only [s_227_0, s_227_1, s_227_4, s_227_5, s_227_6, s_227_9, s_227_10, s_227_11, s_227_12, s_227_15, s_227_16, s_227_17, s_227_20, s_227_23, s_227_25, s_227_26, s_227_29, s_227_30, s_227_32, s_227_33, s_227_37, s_227_41, s_227_44, s_227_45, s_227_49, s_227_50, s_227_53, s_227_54, s_227_56, s_227_57, s_227_58, s_227_59, s_227_60, s_227_61, s_227_64, s_227_65, s_227_67, s_227_72, s_227_74, s_227_76, s_227_77, s_227_80, s_227_81, s_227_84, s_227_86, s_227_87, s_227_90, s_227_91, s_227_92, s_227_94, s_227_95, s_227_96, s_227_97, s_227_100, s_227_103, s_227_106, s_227_109, s_227_112, s_227_113, true_and, and_true, sc0, sc1, sc2, sc3, sc4, Option.toList, List.cons_append, List.nil_append, clr, ne_eq, not_false_eq_true, not_true_eq_false, false_and, and_false, true_or, or_true, or_false, false_or, forall_const, Nat.reduceEqDiff, List.length_nil, List.length_cons, Nat.zero_le, Nat.reduceAdd, Nat.reduceLeDiff, false_implies, true_implies, Int.reduceEq, Int.reduceNe, Int.reduceLT, Int.reduceLE, Int.reduceNeg, Int.reduceToNat, Int.toNat_natCast, Nat.reduceLT, and_self, Decidable.not_not, kR_1, kR_2, kR_3, kR_4, kR_5, kR_6, kR_7, kR_8, kR_9, kR_10, kR_11, kR_12, kR_13, kR_14, kR_15, kR_16, kR_17, kR_18, kR_19, kR_20, kR_21, kR_22, kR_23, pR_0, pR_5, pR_6, pR_8, pR_11, pR_16, pR_17, pR_18, pR_21, pR_22, pR_23, pR_24, pR_26, pR_28, pR_29, pR_30, pR_33, pR_34, pR_35, pR_38, pR_41, pR_42, pR_43]
        refine s_227_38 (Nat.le_of_ble_eq_true rfl) kR_1 (hfi d (by omega)) ?_
        simp only [s_227_0, s_227_1, s_227_4, s_227_5, s_227_6, s_227_9, s_227_10, s_227_11, s_227_12, s_227_15, s_227_16, s_227_17, s_227_20, s_227_23, s_227_25, s_227_26, s_227_29, s_227_30, s_227_32, s_227_33, s_227_37, s_227_41, s_227_44, s_227_45, s_227_49, s_227_50, s_227_53, s_227_54, s_227_56, s_227_57, s_227_58, s_227_59, s_227_60, s_227_61, s_227_64, s_227_65, s_227_67, s_227_72, s_227_74, s_227_76, s_227_77, s_227_80, s_227_81, s_227_84, s_227_86, s_227_87, s_227_90, s_227_91, s_227_92, s_227_94, s_227_95, s_227_96, s_227_97, s_227_100, s_227_103, s_227_106, s_227_109, s_227_112, s_227_113, true_and, and_true, sc0, sc1, sc2, sc3, sc4, Option.toList, List.cons_append, List.nil_append, clr, ne_eq, not_false_eq_true, not_true_eq_false, false_and, and_false, true_or, or_true, or_false, false_or, forall_const, Nat.reduceEqDiff, List.length_nil, List.length_cons, Nat.zero_le, Nat.reduceAdd, Nat.reduceLeDiff, false_implies, true_implies, Int.reduceEq, Int.reduceNe, Int.reduceLT, Int.reduceLE, Int.reduceNeg, Int.reduceToNat, Int.toNat_natCast, Nat.reduceLT, and_self, Decidable.not_not, kR_1, kR_2, kR_3, kR_4, kR_5, kR_6, kR_7, kR_8, kR_9, kR_10, kR_11, kR_12, kR_13, kR_14, kR_15, kR_16, kR_17, kR_18, kR_19, kR_20, kR_21, kR_22, kR_23, pR_0, pR_5, pR_6, pR_8, pR_11, pR_16, pR_17, pR_18, pR_21, pR_22, pR_23, pR_24, pR_26, pR_28, pR_29, pR_30, pR_33, pR_34, pR_35, pR_38, pR_41, pR_42, pR_43, e0]
        refine lup (α := Nat × Option PV) (I := fun h w => W w.1 ∧ (∀ k, x.testBit k = true → w.1.testBit k = true) ∧ (∀ g, g < f → x.testBit g = true → ∀ h, h < 4 → ∀ m : Nat, bsd c z g (sg4 h) = (m : Int) → p m = true → w.1.testBit m = true) ∧ (x.testBit f = true → ∀ h', h' < h → ∀ m : Nat, bsd c z f (sg4 h') = (m : Int) → p m = true → w.1.testBit m = true)) (G := fun h w => wpB (Ev d) 227 Q X 47 [some (pR 1), some (pI (s : Int)), some (pL (w.1 : Int)), none, some (pL (x : Int)), none, some (pI (f : Int)), some (pI (h : Int)), w.2] [] (kz LR) (PR rd ru) M) 4 (fun w hw => ?_) (fun h w hh hw ihh => ?_) 0 (y, t8) (Nat.zero_le _) ⟨c1, c2, c3, fun _ h' hh' => absurd hh' (Nat.not_lt_zero _)⟩
        · obtain ⟨w, t8⟩ := w
          obtain ⟨d1, d2, d3, d4⟩ := hw
          dsimp only at d1 d2 d3 d4 ⊢
          have e4 : (4 : Int) ≤ ((4 : Nat) : Int) := by decide
          have en := EqW_i (w32n (show f < 1000000 by omega))
          rw [s_227_47]
          simp only [s_227_0, s_227_1, s_227_4, s_227_5, s_227_6, s_227_9, s_227_10, s_227_11, s_227_12, s_227_15, s_227_16, s_227_17, s_227_20, s_227_23, s_227_25, s_227_26, s_227_29, s_227_30, s_227_32, s_227_33, s_227_37, s_227_41, s_227_44, s_227_45, s_227_49, s_227_50, s_227_53, s_227_54, s_227_56, s_227_57, s_227_58, s_227_59, s_227_60, s_227_61, s_227_64, s_227_65, s_227_67, s_227_72, s_227_74, s_227_76, s_227_77, s_227_80, s_227_81, s_227_84, s_227_86, s_227_87, s_227_90, s_227_91, s_227_92, s_227_94, s_227_95, s_227_96, s_227_97, s_227_100, s_227_103, s_227_106, s_227_109, s_227_112, s_227_113, true_and, and_true, sc0, sc1, sc2, sc3, sc4, Option.toList, List.cons_append, List.nil_append, clr, ne_eq, not_false_eq_true, not_true_eq_false, false_and, and_false, true_or, or_true, or_false, false_or, forall_const, Nat.reduceEqDiff, List.length_nil, List.length_cons, Nat.zero_le, Nat.reduceAdd, Nat.reduceLeDiff, false_implies, true_implies, Int.reduceEq, Int.reduceNe, Int.reduceLT, Int.reduceLE, Int.reduceNeg, Int.reduceToNat, Int.toNat_natCast, Nat.reduceLT, and_self, Decidable.not_not, kR_1, kR_2, kR_3, kR_4, kR_5, kR_6, kR_7, kR_8, kR_9, kR_10, kR_11, kR_12, kR_13, kR_14, kR_15, kR_16, kR_17, kR_18, kR_19, kR_20, kR_21, kR_22, kR_23, pR_0, pR_5, pR_6, pR_8, pR_11, pR_16, pR_17, pR_18, pR_21, pR_22, pR_23, pR_24, pR_26, pR_28, pR_29, pR_30, pR_33, pR_34, pR_35, pR_38, pR_41, pR_42, pR_43, e4, (EqW_o en)]
          refine ihf (w, _, _) ⟨d1, d2, fun g hg hx h hh m hb hm => ?_⟩
          by_cases eg : g = f
          · subst eg; exact d4 hx h hh m hb hm
          · exact d3 g (by omega) hx h hh m hb hm
        · obtain ⟨w, t8⟩ := w
          obtain ⟨d1, d2, d3, d4⟩ := hw
          dsimp only at d1 d2 d3 d4 ⊢
          have e4 : ¬ (4 : Int) ≤ (h : Int) := by omega
          have hbit := EqW_i (bit_s (a := w) (k := f) (Nat.lt_trans d1.1 (by decide)) (by omega))
          have enf := EqW_i (w32n (show f < 1000000 by omega))
          have enh := EqW_i (w32n (show h < 1000000 by omega))
          by_cases hwf : w.testBit f = true
          case neg =>
            have hx : ¬ x.testBit f = true := fun q => hwf (d2 f q)
            have hwf' : w.testBit f = false := by simpa using hwf
            have ec : ¬ lCmp ((false.toNat : Nat) : Int) 1 = 0 := fun q => absurd (lCmp_0.mp q) (by decide)
            rw [hwf'] at hbit
            rw [s_227_47]
            simp only [s_227_0, s_227_1, s_227_4, s_227_5, s_227_6, s_227_9, s_227_10, s_227_11, s_227_12, s_227_15, s_227_16, s_227_17, s_227_20, s_227_23, s_227_25, s_227_26, s_227_29, s_227_30, s_227_32, s_227_33, s_227_37, s_227_41, s_227_44, s_227_45, s_227_49, s_227_50, s_227_53, s_227_54, s_227_56, s_227_57, s_227_58, s_227_59, s_227_60, s_227_61, s_227_64, s_227_65, s_227_67, s_227_72, s_227_74, s_227_76, s_227_77, s_227_80, s_227_81, s_227_84, s_227_86, s_227_87, s_227_90, s_227_91, s_227_92, s_227_94, s_227_95, s_227_96, s_227_97, s_227_100, s_227_103, s_227_106, s_227_109, s_227_112, s_227_113, true_and, and_true, sc0, sc1, sc2, sc3, sc4, Option.toList, List.cons_append, List.nil_append, clr, ne_eq, not_false_eq_true, not_true_eq_false, false_and, and_false, true_or, or_true, or_false, false_or, forall_const, Nat.reduceEqDiff, List.length_nil, List.length_cons, Nat.zero_le, Nat.reduceAdd, Nat.reduceLeDiff, false_implies, true_implies, Int.reduceEq, Int.reduceNe, Int.reduceLT, Int.reduceLE, Int.reduceNeg, Int.reduceToNat, Int.toNat_natCast, Nat.reduceLT, and_self, Decidable.not_not, kR_1, kR_2, kR_3, kR_4, kR_5, kR_6, kR_7, kR_8, kR_9, kR_10, kR_11, kR_12, kR_13, kR_14, kR_15, kR_16, kR_17, kR_18, kR_19, kR_20, kR_21, kR_22, kR_23, pR_0, pR_5, pR_6, pR_8, pR_11, pR_16, pR_17, pR_18, pR_21, pR_22, pR_23, pR_24, pR_26, pR_28, pR_29, pR_30, pR_33, pR_34, pR_35, pR_38, pR_41, pR_42, pR_43, e4, EqW_o hbit, ec, EqW_o enf]
            refine ihf (w, _, _) ⟨d1, d2, fun g hg hx2 h hh m hb hm => ?_⟩
            by_cases eg : g = f
            · subst eg; exact absurd hx2 hx
            · exact d3 g (by omega) hx2 h hh m hb hm
          have ec : EqW (lCmp ((true.toNat : Nat) : Int) 1) (0) := EqW_i <| lCmp_0.mpr (by decide)
          rw [hwf] at hbit
          rw [s_227_47]
          simp only [s_227_0, s_227_1, s_227_4, s_227_5, s_227_6, s_227_9, s_227_10, s_227_11, s_227_12, s_227_15, s_227_16, s_227_17, s_227_20, s_227_23, s_227_25, s_227_26, s_227_29, s_227_30, s_227_32, s_227_33, s_227_37, s_227_41, s_227_44, s_227_45, s_227_49, s_227_50, s_227_53, s_227_54, s_227_56, s_227_57, s_227_58, s_227_59, s_227_60, s_227_61, s_227_64, s_227_65, s_227_67, s_227_72, s_227_74, s_227_76, s_227_77, s_227_80, s_227_81, s_227_84, s_227_86, s_227_87, s_227_90, s_227_91, s_227_92, s_227_94, s_227_95, s_227_96, s_227_97, s_227_100, s_227_103, s_227_106, s_227_109, s_227_112, s_227_113, true_and, and_true, sc0, sc1, sc2, sc3, sc4, Option.toList, List.cons_append, List.nil_append, clr, ne_eq, not_false_eq_true, not_true_eq_false, false_and, and_false, true_or, or_true, or_false, false_or, forall_const, Nat.reduceEqDiff, List.length_nil, List.length_cons, Nat.zero_le, Nat.reduceAdd, Nat.reduceLeDiff, false_implies, true_implies, Int.reduceEq, Int.reduceNe, Int.reduceLT, Int.reduceLE, Int.reduceNeg, Int.reduceToNat, Int.toNat_natCast, Nat.reduceLT, and_self, Decidable.not_not, kR_1, kR_2, kR_3, kR_4, kR_5, kR_6, kR_7, kR_8, kR_9, kR_10, kR_11, kR_12, kR_13, kR_14, kR_15, kR_16, kR_17, kR_18, kR_19, kR_20, kR_21, kR_22, kR_23, pR_0, pR_5, pR_6, pR_8, pR_11, pR_16, pR_17, pR_18, pR_21, pR_22, pR_23, pR_24, pR_26, pR_28, pR_29, pR_30, pR_33, pR_34, pR_35, pR_38, pR_41, pR_42, pR_43, e4, EqW_o hbit, (EqW_o ec)]
          refine s_227_69 (Nat.le_of_ble_eq_true rfl) kR_1 (r_beside hD hzr hf hh d (by omega)) ?_
          have nop : ∀ l8, (∀ m : Nat, bsd c z f (sg4 h) = (m : Int) → p m = true → False) → wpB (Ev d) 227 Q X 97 [some (pR 1), some (pI (s : Int)), some (pL (w : Int)), none, some (pL (x : Int)), none, some (pI (f : Int)), some (pI (h : Int)), l8] [] (kz LR) (PR rd ru) M := by
            intro l8 hno
            simp only [s_227_0, s_227_1, s_227_4, s_227_5, s_227_6, s_227_9, s_227_10, s_227_11, s_227_12, s_227_15, s_227_16, s_227_17, s_227_20, s_227_23, s_227_25, s_227_26, s_227_29, s_227_30, s_227_32, s_227_33, s_227_37, s_227_41, s_227_44, s_227_45, s_227_49, s_227_50, s_227_53, s_227_54, s_227_56, s_227_57, s_227_58, s_227_59, s_227_60, s_227_61, s_227_64, s_227_65, s_227_67, s_227_72, s_227_74, s_227_76, s_227_77, s_227_80, s_227_81, s_227_84, s_227_86, s_227_87, s_227_90, s_227_91, s_227_92, s_227_94, s_227_95, s_227_96, s_227_97, s_227_100, s_227_103, s_227_106, s_227_109, s_227_112, s_227_113, true_and, and_true, sc0, sc1, sc2, sc3, sc4, Option.toList, List.cons_append, List.nil_append, clr, ne_eq, not_false_eq_true, not_true_eq_false, false_and, and_false, true_or, or_true, or_false, false_or, forall_const, Nat.reduceEqDiff, List.length_nil, List.length_cons, Nat.zero_le, Nat.reduceAdd, Nat.reduceLeDiff, false_implies, true_implies, Int.reduceEq, Int.reduceNe, Int.reduceLT, Int.reduceLE, Int.reduceNeg, Int.reduceToNat, Int.toNat_natCast, Nat.reduceLT, and_self, Decidable.not_not, kR_1, kR_2, kR_3, kR_4, kR_5, kR_6, kR_7, kR_8, kR_9, kR_10, kR_11, kR_12, kR_13, kR_14, kR_15, kR_16, kR_17, kR_18, kR_19, kR_20, kR_21, kR_22, kR_23, pR_0, pR_5, pR_6, pR_8, pR_11, pR_16, pR_17, pR_18, pR_21, pR_22, pR_23, pR_24, pR_26, pR_28, pR_29, pR_30, pR_33, pR_34, pR_35, pR_38, pR_41, pR_42, pR_43, EqW_o enh]
            refine ihh (w, _) ⟨d1, d2, d3, fun hx h' hh' m hb hm => ?_⟩
            by_cases eh : h' = h
            · subst eh; exact absurd (hno m hb hm) id
            · exact d4 hx h' (by omega) m hb hm
          rcases bsd_1r (c := c) (z := z) (f := f) (d := sg4 h) with eb | eb
          · simp only [s_227_0, s_227_1, s_227_4, s_227_5, s_227_6, s_227_9, s_227_10, s_227_11, s_227_12, s_227_15, s_227_16, s_227_17, s_227_20, s_227_23, s_227_25, s_227_26, s_227_29, s_227_30, s_227_32, s_227_33, s_227_37, s_227_41, s_227_44, s_227_45, s_227_49, s_227_50, s_227_53, s_227_54, s_227_56, s_227_57, s_227_58, s_227_59, s_227_60, s_227_61, s_227_64, s_227_65, s_227_67, s_227_72, s_227_74, s_227_76, s_227_77, s_227_80, s_227_81, s_227_84, s_227_86, s_227_87, s_227_90, s_227_91, s_227_92, s_227_94, s_227_95, s_227_96, s_227_100, s_227_103, s_227_106, s_227_109, s_227_112, s_227_113, true_and, and_true, sc0, sc1, sc2, sc3, sc4, Option.toList, List.cons_append, List.nil_append, clr, ne_eq, not_false_eq_true, not_true_eq_false, false_and, and_false, true_or, or_true, or_false, false_or, forall_const, Nat.reduceEqDiff, List.length_nil, List.length_cons, Nat.zero_le, Nat.reduceAdd, Nat.reduceLeDiff, false_implies, true_implies, Int.reduceEq, Int.reduceNe, Int.reduceLT, Int.reduceLE, Int.reduceNeg, Int.reduceToNat, Int.toNat_natCast, Nat.reduceLT, and_self, Decidable.not_not, kR_1, kR_2, kR_3, kR_4, kR_5, kR_6, kR_7, kR_8, kR_9, kR_10, kR_11, kR_12, kR_13, kR_14, kR_15, kR_16, kR_17, kR_18, kR_19, kR_20, kR_21, kR_22, kR_23, pR_0, pR_5, pR_6, pR_8, pR_11, pR_16, pR_17, pR_18, pR_21, pR_22, pR_23, pR_24, pR_26, pR_28, pR_29, pR_30, pR_33, pR_34, pR_35, pR_38, pR_41, pR_42, pR_43, eb]
            exact nop _ (fun m hb _ => by rw [eb] at hb; omega)
          obtain ⟨m, hm⟩ : ∃ m : Nat, bsd c z f (sg4 h) = (m : Int) := ⟨(bsd c z f (sg4 h)).toNat, by omega⟩
          have hN : Nbr c z f m := ⟨sg4 h, sg4_l, hm⟩
          have hmz : m < z := Nbr_lt hL hf hN
          have g1 : ¬ (m : Int) = -1 := by omega
          have b0 : (0 : Int) ≤ (m : Int) := by omega
          have b1 : (m : Int) < ((36 : Nat) : Int) := by omega
          rw [hm]
          by_cases hpm : p m = true
          · have g2 : ¬ M 10 m ≤ 0 := Int.not_le.mpr ((hp m hmz).mpr hpm)
            have l2 : 2 ^ m < 2 ^ 36 := Nat.pow_lt_pow_right (by decide) (by omega)
            have hor := EqW_i (show lOr (w : Int) (lShl 1 (m : Int)) = ((w ||| 2 ^ m : Nat) : Int) from by
              rw [one_shl (by omega), lOr_n (Nat.lt_trans d1.1 (by decide)) (Nat.lt_trans l2 (by decide))])
            simp only [s_227_0, s_227_1, s_227_4, s_227_5, s_227_6, s_227_9, s_227_10, s_227_11, s_227_12, s_227_15, s_227_16, s_227_17, s_227_20, s_227_23, s_227_25, s_227_26, s_227_29, s_227_30, s_227_32, s_227_33, s_227_37, s_227_41, s_227_44, s_227_45, s_227_49, s_227_50, s_227_53, s_227_54, s_227_56, s_227_57, s_227_58, s_227_59, s_227_60, s_227_61, s_227_64, s_227_65, s_227_67, s_227_72, s_227_74, s_227_76, s_227_77, s_227_80, s_227_81, s_227_84, s_227_86, s_227_87, s_227_90, s_227_91, s_227_92, s_227_94, s_227_95, s_227_96, s_227_97, s_227_100, s_227_103, s_227_106, s_227_109, s_227_112, s_227_113, true_and, and_true, sc0, sc1, sc2, sc3, sc4, Option.toList, List.cons_append, List.nil_append, clr, ne_eq, not_false_eq_true, not_true_eq_false, false_and, and_false, true_or, or_true, or_false, false_or, forall_const, Nat.reduceEqDiff, List.length_nil, List.length_cons, Nat.zero_le, Nat.reduceAdd, Nat.reduceLeDiff, false_implies, true_implies, Int.reduceEq, Int.reduceNe, Int.reduceLT, Int.reduceLE, Int.reduceNeg, Int.reduceToNat, Int.toNat_natCast, Nat.reduceLT, and_self, Decidable.not_not, kR_1, kR_2, kR_3, kR_4, kR_5, kR_6, kR_7, kR_8, kR_9, kR_10, kR_11, kR_12, kR_13, kR_14, kR_15, kR_16, kR_17, kR_18, kR_19, kR_20, kR_21, kR_22, kR_23, pR_0, pR_5, pR_6, pR_8, pR_11, pR_16, pR_17, pR_18, pR_21, pR_22, pR_23, pR_24, pR_26, pR_28, pR_29, pR_30, pR_33, pR_34, pR_35, pR_38, pR_41, pR_42, pR_43, g1, b0, b1, g2, EqW_o hor, EqW_o enh]
            have hset : ∀ k, (w ||| 2 ^ m).testBit k = (w.testBit k || decide (k = m)) := fun k => fb_bit_set w m k
            have up : ∀ k, w.testBit k = true → (w ||| 2 ^ m).testBit k = true := fun k hk => by rw [hset, hk]; rfl
            refine ihh (w ||| 2 ^ m, _) ⟨⟨Nat.or_lt_two_pow d1.1 l2, fun k hk => ?_, fun q => up _ (d1.2.2 q)⟩, fun k hk => up k (d2 k hk), fun g hg hx h hh m' hb hm' => up _ (d3 g hg hx h hh m' hb hm'), fun hx h' hh' m' hb hm' => ?_⟩
            · have hk' : (w.testBit k || decide (k = m)) = true := by rw [← hset]; exact hk
              rw [Bool.or_eq_true, decide_eq_true_iff] at hk'
              rcases hk' with q | q
              · exact d1.2.1 k q
              · subst q; exact Rch_s (d1.2.1 f hwf) hf hN hpm
            · by_cases eh : h' = h
              · subst eh
                have : m' = m := by rw [hm] at hb; omega
                subst this
                show (w ||| 2 ^ m').testBit m' = true
                rw [hset]; simp
              · exact up _ (d4 hx h' (by omega) m' hb hm')
          · have g2 : M 10 m ≤ 0 := Int.not_lt.mp (fun q => hpm ((hp m hmz).mp q))
            simp only [s_227_0, s_227_1, s_227_4, s_227_5, s_227_6, s_227_9, s_227_10, s_227_11, s_227_12, s_227_15, s_227_16, s_227_17, s_227_20, s_227_23, s_227_25, s_227_26, s_227_29, s_227_30, s_227_32, s_227_33, s_227_37, s_227_41, s_227_44, s_227_45, s_227_49, s_227_50, s_227_53, s_227_54, s_227_56, s_227_57, s_227_58, s_227_59, s_227_60, s_227_61, s_227_64, s_227_65, s_227_67, s_227_72, s_227_74, s_227_76, s_227_77, s_227_80, s_227_81, s_227_84, s_227_86, s_227_87, s_227_90, s_227_91, s_227_92, s_227_94, s_227_95, s_227_96, s_227_100, s_227_103, s_227_106, s_227_109, s_227_112, s_227_113, true_and, and_true, sc0, sc1, sc2, sc3, sc4, Option.toList, List.cons_append, List.nil_append, clr, ne_eq, not_false_eq_true, not_true_eq_false, false_and, and_false, true_or, or_true, or_false, false_or, forall_const, Nat.reduceEqDiff, List.length_nil, List.length_cons, Nat.zero_le, Nat.reduceAdd, Nat.reduceLeDiff, false_implies, true_implies, Int.reduceEq, Int.reduceNe, Int.reduceLT, Int.reduceLE, Int.reduceNeg, Int.reduceToNat, Int.toNat_natCast, Nat.reduceLT, and_self, Decidable.not_not, kR_1, kR_2, kR_3, kR_4, kR_5, kR_6, kR_7, kR_8, kR_9, kR_10, kR_11, kR_12, kR_13, kR_14, kR_15, kR_16, kR_17, kR_18, kR_19, kR_20, kR_21, kR_22, kR_23, pR_0, pR_5, pR_6, pR_8, pR_11, pR_16, pR_17, pR_18, pR_21, pR_22, pR_23, pR_24, pR_26, pR_28, pR_29, pR_30, pR_33, pR_34, pR_35, pR_38, pR_41, pR_42, pR_43, g1, b0, b1, g2]
            exact nop _ (fun m' hb hm' => by
              have : m' = m := by rw [hm] at hb; omega
              subst this; exact hpm hm')
  have b0 : (0 : Int) ≤ (s : Int) := by omega
  have b1 : (s : Int) < ((36 : Nat) : Int) := by omega
  by_cases hps : p s = true
  · have g : ¬ M 10 s ≤ 0 := Int.not_le.mpr ((hp s hs).mpr hps)
    have h1 := EqW_i (one_shl (show s < 63 by omega))
    simp only [s_227_0, s_227_1, s_227_4, s_227_5, s_227_6, s_227_9, s_227_10, s_227_11, s_227_12, s_227_15, s_227_16, s_227_17, s_227_20, s_227_23, s_227_25, s_227_26, s_227_29, s_227_30, s_227_32, s_227_33, s_227_37, s_227_41, s_227_44, s_227_45, s_227_49, s_227_50, s_227_53, s_227_54, s_227_56, s_227_57, s_227_58, s_227_59, s_227_60, s_227_61, s_227_64, s_227_65, s_227_67, s_227_72, s_227_74, s_227_76, s_227_77, s_227_80, s_227_81, s_227_84, s_227_86, s_227_87, s_227_90, s_227_91, s_227_92, s_227_94, s_227_95, s_227_96, s_227_97, s_227_100, s_227_103, s_227_106, s_227_109, s_227_112, s_227_113, true_and, and_true, sc0, sc1, sc2, sc3, sc4, Option.toList, List.cons_append, List.nil_append, clr, ne_eq, not_false_eq_true, not_true_eq_false, false_and, and_false, true_or, or_true, or_false, false_or, forall_const, Nat.reduceEqDiff, List.length_nil, List.length_cons, Nat.zero_le, Nat.reduceAdd, Nat.reduceLeDiff, false_implies, true_implies, Int.reduceEq, Int.reduceNe, Int.reduceLT, Int.reduceLE, Int.reduceNeg, Int.reduceToNat, Int.toNat_natCast, Nat.reduceLT, and_self, Decidable.not_not, kR_1, kR_2, kR_3, kR_4, kR_5, kR_6, kR_7, kR_8, kR_9, kR_10, kR_11, kR_12, kR_13, kR_14, kR_15, kR_16, kR_17, kR_18, kR_19, kR_20, kR_21, kR_22, kR_23, pR_0, pR_5, pR_6, pR_8, pR_11, pR_16, pR_17, pR_18, pR_21, pR_22, pR_23, pR_24, pR_26, pR_28, pR_29, pR_30, pR_33, pR_34, pR_35, pR_38, pR_41, pR_42, pR_43, b0, b1, g, EqW_o h1]
    refine main (2 ^ s) ⟨Nat.pow_lt_pow_right (by decide) (by omega), fun f hf => ?_, fun _ => ?_⟩
    · rw [Nat.testBit_two_pow] at hf
      have : s = f := by simpa using hf
      subst this; exact Rch_0 hps
    · rw [Nat.testBit_two_pow]; simp
  · have g : M 10 s ≤ 0 := Int.not_lt.mp (fun q => hps ((hp s hs).mp q))
    simp only [s_227_0, s_227_1, s_227_4, s_227_5, s_227_6, s_227_9, s_227_10, s_227_11, s_227_12, s_227_15, s_227_16, s_227_17, s_227_20, s_227_23, s_227_25, s_227_26, s_227_29, s_227_30, s_227_32, s_227_33, s_227_37, s_227_41, s_227_44, s_227_45, s_227_49, s_227_50, s_227_53, s_227_54, s_227_56, s_227_57, s_227_58, s_227_59, s_227_60, s_227_61, s_227_64, s_227_65, s_227_67, s_227_72, s_227_74, s_227_76, s_227_77, s_227_80, s_227_81, s_227_84, s_227_86, s_227_87, s_227_90, s_227_91, s_227_92, s_227_94, s_227_95, s_227_96, s_227_97, s_227_100, s_227_103, s_227_106, s_227_109, s_227_112, s_227_113, true_and, and_true, sc0, sc1, sc2, sc3, sc4, Option.toList, List.cons_append, List.nil_append, clr, ne_eq, not_false_eq_true, not_true_eq_false, false_and, and_false, true_or, or_true, or_false, false_or, forall_const, Nat.reduceEqDiff, List.length_nil, List.length_cons, Nat.zero_le, Nat.reduceAdd, Nat.reduceLeDiff, false_implies, true_implies, Int.reduceEq, Int.reduceNe, Int.reduceLT, Int.reduceLE, Int.reduceNeg, Int.reduceToNat, Int.toNat_natCast, Nat.reduceLT, and_self, Decidable.not_not, kR_1, kR_2, kR_3, kR_4, kR_5, kR_6, kR_7, kR_8, kR_9, kR_10, kR_11, kR_12, kR_13, kR_14, kR_15, kR_16, kR_17, kR_18, kR_19, kR_20, kR_21, kR_22, kR_23, pR_0, pR_5, pR_6, pR_8, pR_11, pR_16, pR_17, pR_18, pR_21, pR_22, pR_23, pR_24, pR_26, pR_28, pR_29, pR_30, pR_33, pR_34, pR_35, pR_38, pR_41, pR_42, pR_43, b0, b1, g]
    exact main 0 ⟨by decide, fun f hf => (by rw [Nat.zero_testBit] at hf; cases hf), fun q => absurd q hps⟩
end
