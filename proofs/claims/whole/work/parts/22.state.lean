/-! loops; the class State -/
def Rn (E : CR) (m pc : Nat) (ls : PL) (st : List PV) (κ : KK) (P : PM) (M : MM) (r : Option PV) (κ' : KK) (P' : PM) (M' : MM) : Prop := ∀ (Q : QT) (X : XT), Q r κ' P' M' → wpB E m Q X pc ls st κ P M
theorem Ct_r {k y : Nat} {as : List PV} {L : List (Nat × Nat)} {P : PM} {M : MM} {r : Option PV} {P' : PM} {M' : MM} (ls : PL) (hn : (ent as).length ≤ mxl y) (hl : entL y as = ls) (h : ∀ d, k ≤ d → Rn (Ev d) y 0 ls [] (kz L) P M r (kz L) P' M') : Ct (k + 1) y as L P M r P' M' := Ct_of ls hn hl (fun d hd => h d hd _ _ ⟨rfl, rfl, rfl, rfl⟩)
/-- for every depth some outcome with this property -/
def Cw (k y : Nat) (as : List PV) (L : List (Nat × Nat)) (P : PM) (M : MM) (Post : Option PV → PM → MM → Prop) : Prop := ∀ d, k ≤ d → ∃ r P' M', Ev d y as (kz L) P M r (kz L) P' M' ∧ Post r P' M'
theorem Cw_r {k y : Nat} {as : List PV} {L : List (Nat × Nat)} {P : PM} {M : MM} {Post : Option PV → PM → MM → Prop} (ls : PL) (hn : (ent as).length ≤ mxl y) (hl : entL y as = ls) (h : ∀ d, k ≤ d → ∃ r P' M', Rn (Ev d) y 0 ls [] (kz L) P M r (kz L) P' M' ∧ Post r P' M') : Cw (k + 1) y as L P M Post := by
  intro d hd
  obtain ⟨d, rfl⟩ : ∃ e, d = e + 1 := ⟨d - 1, by omega⟩
  obtain ⟨r, P', M', h1, h2⟩ := h d (by omega)
  refine ⟨r, P', M', ⟨hn, ?_⟩, h2⟩
  rw [hl]
  exact h1 _ _ ⟨rfl, rfl, rfl, rfl⟩
theorem w32n {n : Nat} (h : n < 1000000) : w32 ((n : Int) + 1) = ((n + 1 : Nat) : Int) := by unfold w32; omega
theorem uM_at {M : MM} {o k : Nat} {v : Int} {q j : Nat} : uM M o k v q j = if q = o then (if j = k then v else M q j) else M q j := by
  unfold uM
  split
  · rename_i e; rw [e]
  · rfl
def wsum (f : Nat → Int) : Nat → Int
  | 0 => 0
  | n + 1 => w32 (wsum f n + f n)
section
variable {M : MM} {b : Bool} {o : Nat}
theorem c_wornInAll {n : Nat} (ho : stI o) (hn : M 3 2 = (n : Int)) (h36 : n ≤ 36) : Ct 1 51 [pR o] LC (PC b) M (some (pI (wsum (M (o + 2)) n))) (PC b) M := by
  refine Ct_r [some (pR o), none, none] (Nat.le_of_ble_eq_true rfl) rfl (fun d hd Q X hq => ?_)
  simp only [s_51_0, s_51_1, s_51_2, s_51_3, s_51_5, s_51_6, s_51_9, s_51_12, s_51_15, s_51_16, s_51_17, s_51_20, s_51_21, s_51_22, s_51_23, s_51_24, s_51_27, s_51_30, s_51_31, true_and, and_true, sc0, sc1, sc2, sc3, sc4, Option.toList, List.cons_append, List.nil_append, clr, ne_eq, not_false_eq_true, not_true_eq_false, false_and, and_false, true_or, or_true, or_false, false_or, forall_const, Nat.reduceEqDiff, List.length_nil, List.length_cons, Nat.zero_le, Nat.reduceAdd, Nat.reduceLeDiff, false_implies, true_implies, Int.reduceEq, Int.reduceNe, Int.reduceLT, Int.reduceLE, Int.reduceNeg, Int.reduceToNat, Int.toNat_natCast, Nat.reduceLT, and_self, Decidable.not_not]
  have key : ∀ j i : Nat, i + j = n → wpB (Ev d) 51 Q X 4 [some (pR o), some (pI (wsum (M (o + 2)) i)), some (pI (i : Int))] [] (kz LC) (PC b) M := by
    intro j
    induction j with
    | zero =>
      intro i hi
      rw [s_51_4]
      simp only [s_51_0, s_51_1, s_51_2, s_51_3, s_51_5, s_51_6, s_51_9, s_51_12, s_51_15, s_51_16, s_51_17, s_51_20, s_51_21, s_51_22, s_51_23, s_51_24, s_51_27, s_51_30, s_51_31, true_and, and_true, sc0, sc1, sc2, sc3, sc4, Option.toList, List.cons_append, List.nil_append, clr, ne_eq, not_false_eq_true, not_true_eq_false, false_and, and_false, true_or, or_true, or_false, false_or, forall_const, Nat.reduceEqDiff, List.length_nil, List.length_cons, Nat.zero_le, Nat.reduceAdd, Nat.reduceLeDiff, false_implies, true_implies, Int.reduceEq, Int.reduceNe, Int.reduceLT, Int.reduceLE, Int.reduceNeg, Int.reduceToNat, Int.toNat_natCast, Nat.reduceLT, and_self, Decidable.not_not, st_k ho, st_p0 ho, st_p2 ho, st_k2 ho, kC_3, hn]
      have e : i = n := by omega
      subst e
      exact ⟨fun _ => hq, fun h => absurd (Int.le_refl _) h⟩
    | succ j ih =>
      intro i hi
      rw [s_51_4]
      simp only [s_51_0, s_51_1, s_51_2, s_51_3, s_51_5, s_51_6, s_51_9, s_51_12, s_51_15, s_51_16, s_51_17, s_51_20, s_51_21, s_51_22, s_51_23, s_51_24, s_51_27, s_51_30, s_51_31, true_and, and_true, sc0, sc1, sc2, sc3, sc4, Option.toList, List.cons_append, List.nil_append, clr, ne_eq, not_false_eq_true, not_true_eq_false, false_and, and_false, true_or, or_true, or_false, false_or, forall_const, Nat.reduceEqDiff, List.length_nil, List.length_cons, Nat.zero_le, Nat.reduceAdd, Nat.reduceLeDiff, false_implies, true_implies, Int.reduceEq, Int.reduceNe, Int.reduceLT, Int.reduceLE, Int.reduceNeg, Int.reduceToNat, Int.toNat_natCast, Nat.reduceLT, and_self, Decidable.not_not, st_k ho, st_p0 ho, st_p2 ho, st_k2 ho, kC_3, hn]
      refine ⟨fun h => absurd h (by omega), fun _ => ⟨by omega, by omega, ?_⟩⟩
      rw [w32n (by omega)]
      exact ih (i + 1) (by omega)
  exact key n 0 (by omega)
theorem c_clear (ho : stI o) : Cw 1 29 [pR o] LC (PC b) M (fun r P' M' => r = none ∧ P' = PC b ∧ (∀ k, k < 36 → M' (o + 1) k = 0 ∧ M' (o + 2) k = 0) ∧ M' o 3 = 0 ∧ M' o 4 = 0 ∧ M' o 5 = 0 ∧ ∀ q, q ≠ o → q ≠ o + 1 → q ≠ o + 2 → M' q = M q) := by
  refine Cw_r [some (pR o), none] (Nat.le_of_ble_eq_true rfl) rfl (fun d hd => ?_)
  have key : ∀ j i : Nat, ∀ N : MM, i + j = 36 → (∀ k, k < i → N (o + 1) k = 0 ∧ N (o + 2) k = 0) → (∀ q, q ≠ o → q ≠ o + 1 → q ≠ o + 2 → N q = M q) → ∃ M', Rn (Ev d) 29 2 [some (pR o), some (pI (i : Int))] [] (kz LC) (PC b) N none (kz LC) (PC b) M' ∧ ((∀ k, k < 36 → M' (o + 1) k = 0 ∧ M' (o + 2) k = 0) ∧ M' o 3 = 0 ∧ M' o 4 = 0 ∧ M' o 5 = 0 ∧ ∀ q, q ≠ o → q ≠ o + 1 → q ≠ o + 2 → M' q = M q) := by
    intro j
    induction j with
    | zero =>
      intro i N hi h1 h2
      refine ⟨uM (uM (uM N o 3 0) o 4 0) o 5 0, fun Q X hq => ?_, fun k hk => ?_, ?_, ?_, ?_, fun q g1 g2 g3 => ?_⟩
      · rw [s_29_2]
        simp only [s_29_0, s_29_1, s_29_3, s_29_5, s_29_8, s_29_9, s_29_12, s_29_13, s_29_14, s_29_15, s_29_16, s_29_19, s_29_20, s_29_21, s_29_22, s_29_25, s_29_28, s_29_29, s_29_30, s_29_33, s_29_34, s_29_35, s_29_38, s_29_39, s_29_40, s_29_43, true_and, and_true, sc0, sc1, sc2, sc3, sc4, Option.toList, List.cons_append, List.nil_append, clr, ne_eq, not_false_eq_true, not_true_eq_false, false_and, and_false, true_or, or_true, or_false, false_or, forall_const, Nat.reduceEqDiff, List.length_nil, List.length_cons, Nat.zero_le, Nat.reduceAdd, Nat.reduceLeDiff, false_implies, true_implies, Int.reduceEq, Int.reduceNe, Int.reduceLT, Int.reduceLE, Int.reduceNeg, Int.reduceToNat, Int.toNat_natCast, Nat.reduceLT, and_self, Decidable.not_not, st_k ho, st_p1 ho, st_p2 ho, st_k1 ho, st_k2 ho]
        exact ⟨fun _ => hq, fun h => absurd (by omega) h⟩
      · have := h1 k (by omega)
        simp [uM_at, this]
      · simp [uM_at]
      · simp [uM_at]
      · simp [uM_at]
      · rw [uM_ne g1, uM_ne g1, uM_ne g1]
        exact h2 q g1 g2 g3
    | succ j ih =>
      intro i N hi h1 h2
      obtain ⟨M', hr, hp⟩ := ih (i + 1) (uM (uM N (o + 1) i 0) (o + 2) i 0) (by omega) (fun k hk => by
        simp only [uM_at]
        by_cases e : k = i
        · simp [e]
        · have := h1 k (by omega)
          simp [e, this]) (fun q g1 g2 g3 => by rw [uM_ne g3, uM_ne g2]; exact h2 q g1 g2 g3)
      refine ⟨M', fun Q X hq => ?_, hp⟩
      rw [s_29_2]
      simp only [s_29_0, s_29_1, s_29_3, s_29_5, s_29_8, s_29_9, s_29_12, s_29_13, s_29_14, s_29_15, s_29_16, s_29_19, s_29_20, s_29_21, s_29_22, s_29_25, s_29_28, s_29_29, s_29_30, s_29_33, s_29_34, s_29_35, s_29_38, s_29_39, s_29_40, s_29_43, true_and, and_true, sc0, sc1, sc2, sc3, sc4, Option.toList, List.cons_append, List.nil_append, clr, ne_eq, not_false_eq_true, not_true_eq_false, false_and, and_false, true_or, or_true, or_false, false_or, forall_const, Nat.reduceEqDiff, List.length_nil, List.length_cons, Nat.zero_le, Nat.reduceAdd, Nat.reduceLeDiff, false_implies, true_implies, Int.reduceEq, Int.reduceNe, Int.reduceLT, Int.reduceLE, Int.reduceNeg, Int.reduceToNat, Int.toNat_natCast, Nat.reduceLT, and_self, Decidable.not_not, st_k ho, st_p1 ho, st_p2 ho, st_k1 ho, st_k2 ho]
      refine ⟨fun h => absurd h (by omega), fun _ => ⟨by omega, by omega, by omega, by omega, ?_⟩⟩
      rw [w32n (by omega)]
      exact hr Q X hq
  obtain ⟨M', hr, hp⟩ := key 36 0 M (by omega) (fun k hk => by omega) (fun _ _ _ _ => rfl)
  refine ⟨none, PC b, M', fun Q X hq => ?_, rfl, rfl, hp⟩
  simp only [s_29_0, s_29_1, s_29_3, s_29_5, s_29_8, s_29_9, s_29_12, s_29_13, s_29_14, s_29_15, s_29_16, s_29_19, s_29_20, s_29_21, s_29_22, s_29_25, s_29_28, s_29_29, s_29_30, s_29_33, s_29_34, s_29_35, s_29_38, s_29_39, s_29_40, s_29_43, true_and, and_true, sc0, sc1, sc2, sc3, sc4, Option.toList, List.cons_append, List.nil_append, clr, ne_eq, not_false_eq_true, not_true_eq_false, false_and, and_false, true_or, or_true, or_false, false_or, forall_const, Nat.reduceEqDiff, List.length_nil, List.length_cons, Nat.zero_le, Nat.reduceAdd, Nat.reduceLeDiff, false_implies, true_implies, Int.reduceEq, Int.reduceNe, Int.reduceLT, Int.reduceLE, Int.reduceNeg, Int.reduceToNat, Int.toNat_natCast, Nat.reduceLT, and_self, Decidable.not_not]
  exact hr Q X hq
end
