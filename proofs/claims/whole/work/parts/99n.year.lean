/-! year: the acts, pure; the class looks at the text -/
def dgA (x : Int) : Nat := if x = 110 then 1 else if x = 108 ∨ x = 103 then 2 else if x = 98 ∨ x = 100 then 3 else 0
theorem dgA_b (x : Int) : dgA x ≤ 3 := by unfold dgA; (repeat' split) <;> omega
def loA (ch : Int) (i : Nat) : Int := if ch = 103 ∧ i = 2 then 49 else 48
def hiA (ch : Int) (i : Nat) : Int := if (ch = 98 ∧ i = 3) ∨ (ch = 103 ∧ i = 2) then 51 else 57
abbrev plA (T : Nat → Int) (la : Nat) (ch : Int) (q i : Nat) : Prop := q + i < la ∧ loA ch i ≤ T (q + i) ∧ T (q + i) ≤ hiA ch i
def aS (T : Nat → Int) (la : Nat) (ch : Int) (q : Nat) : Nat → Nat → Int
  | 0, _ => -1
  | k + 1, i => if plA T la ch q i then aS T la ch q k (i + 1) else ((q + i : Nat) : Int)
def aF (T : Nat → Int) (la p : Nat) : Int := if dgA (T p) = 0 then (p : Int) else aS T la (T p) p (dgA (T p)) 1
def fdA (T : Nat → Int) (r c q : Nat) : Int := if T q - 48 < (r : Int) ∧ T (q + 1) - 48 < (c : Int) then (T q - 48) * (c : Int) + (T (q + 1) - 48) else -1
def acT (T : Nat → Int) (r c p : Nat) : Int × Int × Int := if T p = 110 then (110, T (p + 1) - 48, 0) else if T p = 108 then (108, fdA T r c (p + 1), 0) else if T p = 98 then (98, fdA T r c (p + 1), T (p + 3) - 48) else if T p = 103 then (103, T (p + 1) - 48, T (p + 2) - 48) else (100, T (p + 1) - 48, fdA T r c (p + 2))
def yP (T : Nat → Int) (la ln r c : Nat) : Nat → Nat → Nat ⊕ List (Int × Int × Int)
  | 0, _ => if la < ln then Sum.inl la else Sum.inr []
  | k + 1, p => if la ≤ p then (if la < ln then Sum.inl la else Sum.inr []) else if 0 ≤ aF T la p then Sum.inl (aF T la p).toNat else gsC (acT T r c p) (yP T la ln r c k (p + 1 + dgA (T p)))
section
variable {T : Nat → Int} {la ln r c : Nat}
theorem aS_b {ch : Int} {q : Nat} : ∀ k i, -1 ≤ aS T la ch q k i ∧ aS T la ch q k i < q + i + k
  | 0, i => by unfold aS; omega
  | k + 1, i => by
    have := aS_b (ch := ch) (q := q) k (i + 1)
    unfold aS
    split <;> omega
theorem aS_ok {ch : Int} {q : Nat} : ∀ k i, ¬ 0 ≤ aS T la ch q k i → ∀ j, i ≤ j → j < i + k → plA T la ch q j
  | 0, i, _, j, h1, h2 => absurd h2 (by omega)
  | k + 1, i, h, j, h1, h2 => by
    unfold aS at h
    by_cases c1 : plA T la ch q i
    · rw [if_pos c1] at h
      by_cases e : j = i
      · subst e; exact c1
      · exact aS_ok k (i + 1) h j (by omega) (by omega)
    · rw [if_neg c1] at h; omega
theorem aF_b {p : Nat} : -1 ≤ aF T la p ∧ aF T la p ≤ p + 3 := by
  unfold aF
  split
  · omega
  · have h1 := aS_b (T := T) (la := la) (ch := T p) (q := p) (dgA (T p)) 1
    have := dgA_b (T p)
    omega
theorem aF_ok {p : Nat} (h : ¬ 0 ≤ aF T la p) : 1 ≤ dgA (T p) ∧ ∀ j, 1 ≤ j → j < 1 + dgA (T p) → plA T la (T p) p j := by
  unfold aF at h
  by_cases c1 : dgA (T p) = 0
  · rw [if_pos c1] at h; omega
  · rw [if_neg c1] at h
    exact ⟨by omega, fun j h1 h2 => aS_ok _ _ h j h1 h2⟩
theorem aF_p {p : Nat} (h : ¬ 0 ≤ aF T la p) (hp : p < la) : p + 1 + dgA (T p) ≤ la := by
  obtain ⟨h1, h2⟩ := aF_ok h
  have := (h2 (dgA (T p)) h1 (by omega)).1
  omega
theorem yP_b : ∀ k p w, yP T la ln r c k p = Sum.inl w → p ≤ la → la ≤ 60 → w ≤ 70
  | 0, p, w, h, h1, h2 => by
    unfold yP at h
    split at h
    · cases h; omega
    · cases h
  | k + 1, p, w, h, h1, h2 => by
    unfold yP at h
    by_cases c1 : la ≤ p
    · rw [if_pos c1] at h
      split at h
      · cases h; omega
      · cases h
    rw [if_neg c1] at h
    by_cases c2 : 0 ≤ aF T la p
    · rw [if_pos c2] at h
      have := aF_b (T := T) (la := la) (p := p)
      cases h; omega
    rw [if_neg c2] at h
    have hp := aF_p c2 (by omega)
    cases hg : yP T la ln r c k (p + 1 + dgA (T p)) with
    | inl w' =>
      rw [hg] at h
      have e' : (Sum.inl w' : Nat ⊕ List (Int × Int × Int)) = Sum.inl w := h
      obtain rfl := Sum.inl.inj e'
      exact yP_b k _ _ hg hp h2
    | inr l => rw [hg] at h; cases h
theorem dgA_c {x : Int} (h : 1 ≤ dgA x) : x = 110 ∨ x = 108 ∨ x = 98 ∨ x = 103 ∨ x = 100 := by
  unfold dgA at h
  by_cases c1 : x = 110
  · exact Or.inl c1
  rw [if_neg c1] at h
  by_cases c2 : x = 108 ∨ x = 103
  · omega
  rw [if_neg c2] at h
  by_cases c3 : x = 98 ∨ x = 100
  · omega
  rw [if_neg c3] at h
  omega
end
section
variable {L : List (Nat × Nat)} {P : PM} {M : MM} {b : Bool} {T : Nat → Int} {la ln r c : Nat}
theorem c_digitsOf {x : Int} : Ct 1 84 [pI x] L P M (some (pI (dgA x : Int))) P M := by
  refine Ct_r [some (pI x)] (Nat.le_of_ble_eq_true rfl) rfl (fun d hd Q X hq => ?_)
  simp only [s_84_0, s_84_68, s_84_69, s_84_70, s_84_71, s_84_72, s_84_73, s_84_74, s_84_75, true_and, and_true, sc0, sc1, sc2, sc3, sc4, Option.toList, List.cons_append, List.nil_append, clr, ne_eq, not_false_eq_true, not_true_eq_false, false_and, and_false, true_or, or_true, or_false, false_or, forall_const, Nat.reduceEqDiff, List.length_nil, List.length_cons, Nat.zero_le, Nat.reduceAdd, Nat.reduceLeDiff, false_implies, true_implies, Int.reduceEq, Int.reduceNe, Int.reduceLT, Int.reduceLE, Int.reduceNeg, Int.reduceToNat, Int.toNat_natCast, Nat.reduceLT, and_self, Decidable.not_not]
  rw [s_84_1]
  have hw : x = 98 ∨ x = 99 ∨ x = 100 ∨ x = 101 ∨ x = 102 ∨ x = 103 ∨ x = 104 ∨ x = 105 ∨ x = 106 ∨ x = 107 ∨ x = 108 ∨ x = 109 ∨ x = 110 ∨ (x < 98 ∨ 110 < x) := by omega
  rcases hw with e | e | e | e | e | e | e | e | e | e | e | e | e | e
  case inr.inr.inr.inr.inr.inr.inr.inr.inr.inr.inr.inr.inr =>
    rw [swo_d e]
    have : dgA x = 0 := by unfold dgA; rw [if_neg (by omega), if_neg (by omega), if_neg (by omega)]
    rw [this] at hq
    refine ⟨by decide, ?_⟩
    rw [show tg 1 _ = 74 from rfl]
    simp only [s_84_0, s_84_1, s_84_68, s_84_69, s_84_70, s_84_71, s_84_72, s_84_73, s_84_74, s_84_75, true_and, and_true, sc0, sc1, sc2, sc3, sc4, Option.toList, List.cons_append, List.nil_append, clr, ne_eq, not_false_eq_true, not_true_eq_false, false_and, and_false, true_or, or_true, or_false, false_or, forall_const, Nat.reduceEqDiff, List.length_nil, List.length_cons, Nat.zero_le, Nat.reduceAdd, Nat.reduceLeDiff, false_implies, true_implies, Int.reduceEq, Int.reduceNe, Int.reduceLT, Int.reduceLE, Int.reduceNeg, Int.reduceToNat, Int.toNat_natCast, Nat.reduceLT, and_self, Decidable.not_not]
    exact hq
  all_goals subst e
  all_goals refine ⟨by decide, ?_⟩
  · rw [show tg 1 _ = 72 from rfl]
    simp only [s_84_0, s_84_1, s_84_68, s_84_69, s_84_70, s_84_71, s_84_72, s_84_73, s_84_74, s_84_75, true_and, and_true, sc0, sc1, sc2, sc3, sc4, Option.toList, List.cons_append, List.nil_append, clr, ne_eq, not_false_eq_true, not_true_eq_false, false_and, and_false, true_or, or_true, or_false, false_or, forall_const, Nat.reduceEqDiff, List.length_nil, List.length_cons, Nat.zero_le, Nat.reduceAdd, Nat.reduceLeDiff, false_implies, true_implies, Int.reduceEq, Int.reduceNe, Int.reduceLT, Int.reduceLE, Int.reduceNeg, Int.reduceToNat, Int.toNat_natCast, Nat.reduceLT, and_self, Decidable.not_not]
    exact hq
  · rw [show tg 1 _ = 74 from rfl]
    simp only [s_84_0, s_84_1, s_84_68, s_84_69, s_84_70, s_84_71, s_84_72, s_84_73, s_84_74, s_84_75, true_and, and_true, sc0, sc1, sc2, sc3, sc4, Option.toList, List.cons_append, List.nil_append, clr, ne_eq, not_false_eq_true, not_true_eq_false, false_and, and_false, true_or, or_true, or_false, false_or, forall_const, Nat.reduceEqDiff, List.length_nil, List.length_cons, Nat.zero_le, Nat.reduceAdd, Nat.reduceLeDiff, false_implies, true_implies, Int.reduceEq, Int.reduceNe, Int.reduceLT, Int.reduceLE, Int.reduceNeg, Int.reduceToNat, Int.toNat_natCast, Nat.reduceLT, and_self, Decidable.not_not]
    exact hq
  · rw [show tg 1 _ = 72 from rfl]
    simp only [s_84_0, s_84_1, s_84_68, s_84_69, s_84_70, s_84_71, s_84_72, s_84_73, s_84_74, s_84_75, true_and, and_true, sc0, sc1, sc2, sc3, sc4, Option.toList, List.cons_append, List.nil_append, clr, ne_eq, not_false_eq_true, not_true_eq_false, false_and, and_false, true_or, or_true, or_false, false_or, forall_const, Nat.reduceEqDiff, List.length_nil, List.length_cons, Nat.zero_le, Nat.reduceAdd, Nat.reduceLeDiff, false_implies, true_implies, Int.reduceEq, Int.reduceNe, Int.reduceLT, Int.reduceLE, Int.reduceNeg, Int.reduceToNat, Int.toNat_natCast, Nat.reduceLT, and_self, Decidable.not_not]
    exact hq
  · rw [show tg 1 _ = 74 from rfl]
    simp only [s_84_0, s_84_1, s_84_68, s_84_69, s_84_70, s_84_71, s_84_72, s_84_73, s_84_74, s_84_75, true_and, and_true, sc0, sc1, sc2, sc3, sc4, Option.toList, List.cons_append, List.nil_append, clr, ne_eq, not_false_eq_true, not_true_eq_false, false_and, and_false, true_or, or_true, or_false, false_or, forall_const, Nat.reduceEqDiff, List.length_nil, List.length_cons, Nat.zero_le, Nat.reduceAdd, Nat.reduceLeDiff, false_implies, true_implies, Int.reduceEq, Int.reduceNe, Int.reduceLT, Int.reduceLE, Int.reduceNeg, Int.reduceToNat, Int.toNat_natCast, Nat.reduceLT, and_self, Decidable.not_not]
    exact hq
  · rw [show tg 1 _ = 74 from rfl]
    simp only [s_84_0, s_84_1, s_84_68, s_84_69, s_84_70, s_84_71, s_84_72, s_84_73, s_84_74, s_84_75, true_and, and_true, sc0, sc1, sc2, sc3, sc4, Option.toList, List.cons_append, List.nil_append, clr, ne_eq, not_false_eq_true, not_true_eq_false, false_and, and_false, true_or, or_true, or_false, false_or, forall_const, Nat.reduceEqDiff, List.length_nil, List.length_cons, Nat.zero_le, Nat.reduceAdd, Nat.reduceLeDiff, false_implies, true_implies, Int.reduceEq, Int.reduceNe, Int.reduceLT, Int.reduceLE, Int.reduceNeg, Int.reduceToNat, Int.toNat_natCast, Nat.reduceLT, and_self, Decidable.not_not]
    exact hq
  · rw [show tg 1 _ = 70 from rfl]
    simp only [s_84_0, s_84_1, s_84_68, s_84_69, s_84_70, s_84_71, s_84_72, s_84_73, s_84_74, s_84_75, true_and, and_true, sc0, sc1, sc2, sc3, sc4, Option.toList, List.cons_append, List.nil_append, clr, ne_eq, not_false_eq_true, not_true_eq_false, false_and, and_false, true_or, or_true, or_false, false_or, forall_const, Nat.reduceEqDiff, List.length_nil, List.length_cons, Nat.zero_le, Nat.reduceAdd, Nat.reduceLeDiff, false_implies, true_implies, Int.reduceEq, Int.reduceNe, Int.reduceLT, Int.reduceLE, Int.reduceNeg, Int.reduceToNat, Int.toNat_natCast, Nat.reduceLT, and_self, Decidable.not_not]
    exact hq
  · rw [show tg 1 _ = 74 from rfl]
    simp only [s_84_0, s_84_1, s_84_68, s_84_69, s_84_70, s_84_71, s_84_72, s_84_73, s_84_74, s_84_75, true_and, and_true, sc0, sc1, sc2, sc3, sc4, Option.toList, List.cons_append, List.nil_append, clr, ne_eq, not_false_eq_true, not_true_eq_false, false_and, and_false, true_or, or_true, or_false, false_or, forall_const, Nat.reduceEqDiff, List.length_nil, List.length_cons, Nat.zero_le, Nat.reduceAdd, Nat.reduceLeDiff, false_implies, true_implies, Int.reduceEq, Int.reduceNe, Int.reduceLT, Int.reduceLE, Int.reduceNeg, Int.reduceToNat, Int.toNat_natCast, Nat.reduceLT, and_self, Decidable.not_not]
    exact hq
  · rw [show tg 1 _ = 74 from rfl]
    simp only [s_84_0, s_84_1, s_84_68, s_84_69, s_84_70, s_84_71, s_84_72, s_84_73, s_84_74, s_84_75, true_and, and_true, sc0, sc1, sc2, sc3, sc4, Option.toList, List.cons_append, List.nil_append, clr, ne_eq, not_false_eq_true, not_true_eq_false, false_and, and_false, true_or, or_true, or_false, false_or, forall_const, Nat.reduceEqDiff, List.length_nil, List.length_cons, Nat.zero_le, Nat.reduceAdd, Nat.reduceLeDiff, false_implies, true_implies, Int.reduceEq, Int.reduceNe, Int.reduceLT, Int.reduceLE, Int.reduceNeg, Int.reduceToNat, Int.toNat_natCast, Nat.reduceLT, and_self, Decidable.not_not]
    exact hq
  · rw [show tg 1 _ = 74 from rfl]
    simp only [s_84_0, s_84_1, s_84_68, s_84_69, s_84_70, s_84_71, s_84_72, s_84_73, s_84_74, s_84_75, true_and, and_true, sc0, sc1, sc2, sc3, sc4, Option.toList, List.cons_append, List.nil_append, clr, ne_eq, not_false_eq_true, not_true_eq_false, false_and, and_false, true_or, or_true, or_false, false_or, forall_const, Nat.reduceEqDiff, List.length_nil, List.length_cons, Nat.zero_le, Nat.reduceAdd, Nat.reduceLeDiff, false_implies, true_implies, Int.reduceEq, Int.reduceNe, Int.reduceLT, Int.reduceLE, Int.reduceNeg, Int.reduceToNat, Int.toNat_natCast, Nat.reduceLT, and_self, Decidable.not_not]
    exact hq
  · rw [show tg 1 _ = 74 from rfl]
    simp only [s_84_0, s_84_1, s_84_68, s_84_69, s_84_70, s_84_71, s_84_72, s_84_73, s_84_74, s_84_75, true_and, and_true, sc0, sc1, sc2, sc3, sc4, Option.toList, List.cons_append, List.nil_append, clr, ne_eq, not_false_eq_true, not_true_eq_false, false_and, and_false, true_or, or_true, or_false, false_or, forall_const, Nat.reduceEqDiff, List.length_nil, List.length_cons, Nat.zero_le, Nat.reduceAdd, Nat.reduceLeDiff, false_implies, true_implies, Int.reduceEq, Int.reduceNe, Int.reduceLT, Int.reduceLE, Int.reduceNeg, Int.reduceToNat, Int.toNat_natCast, Nat.reduceLT, and_self, Decidable.not_not]
    exact hq
  · rw [show tg 1 _ = 70 from rfl]
    simp only [s_84_0, s_84_1, s_84_68, s_84_69, s_84_70, s_84_71, s_84_72, s_84_73, s_84_74, s_84_75, true_and, and_true, sc0, sc1, sc2, sc3, sc4, Option.toList, List.cons_append, List.nil_append, clr, ne_eq, not_false_eq_true, not_true_eq_false, false_and, and_false, true_or, or_true, or_false, false_or, forall_const, Nat.reduceEqDiff, List.length_nil, List.length_cons, Nat.zero_le, Nat.reduceAdd, Nat.reduceLeDiff, false_implies, true_implies, Int.reduceEq, Int.reduceNe, Int.reduceLT, Int.reduceLE, Int.reduceNeg, Int.reduceToNat, Int.toNat_natCast, Nat.reduceLT, and_self, Decidable.not_not]
    exact hq
  · rw [show tg 1 _ = 74 from rfl]
    simp only [s_84_0, s_84_1, s_84_68, s_84_69, s_84_70, s_84_71, s_84_72, s_84_73, s_84_74, s_84_75, true_and, and_true, sc0, sc1, sc2, sc3, sc4, Option.toList, List.cons_append, List.nil_append, clr, ne_eq, not_false_eq_true, not_true_eq_false, false_and, and_false, true_or, or_true, or_false, false_or, forall_const, Nat.reduceEqDiff, List.length_nil, List.length_cons, Nat.zero_le, Nat.reduceAdd, Nat.reduceLeDiff, false_implies, true_implies, Int.reduceEq, Int.reduceNe, Int.reduceLT, Int.reduceLE, Int.reduceNeg, Int.reduceToNat, Int.toNat_natCast, Nat.reduceLT, and_self, Decidable.not_not]
    exact hq
  · rw [show tg 1 _ = 68 from rfl]
    simp only [s_84_0, s_84_1, s_84_68, s_84_69, s_84_70, s_84_71, s_84_72, s_84_73, s_84_74, s_84_75, true_and, and_true, sc0, sc1, sc2, sc3, sc4, Option.toList, List.cons_append, List.nil_append, clr, ne_eq, not_false_eq_true, not_true_eq_false, false_and, and_false, true_or, or_true, or_false, false_or, forall_const, Nat.reduceEqDiff, List.length_nil, List.length_cons, Nat.zero_le, Nat.reduceAdd, Nat.reduceLeDiff, false_implies, true_implies, Int.reduceEq, Int.reduceNe, Int.reduceLT, Int.reduceLE, Int.reduceNeg, Int.reduceToNat, Int.toNat_natCast, Nat.reduceLT, and_self, Decidable.not_not]
    exact hq
theorem c_digitFits {ch x : Int} {i : Nat} : Ct 2 85 [pI ch, pI (i : Int), pI x] L P M (some (pI (if loA ch i ≤ x ∧ x ≤ hiA ch i then 1 else 0))) P M := by
  refine Ct_r [some (pI ch), some (pI (i : Int)), some (pI x)] (Nat.le_of_ble_eq_true rfl) rfl (fun d hd Q X hq => ?_)
  -- a place that takes every digit
  have any : ¬ (ch = 103 ∧ i = 2) → ¬ (ch = 98 ∧ i = 3) → wpB (Ev d) 85 Q X 58 [some (pI ch), some (pI (i : Int)), some (pI x)] [] (kz L) P M := by
    intro h1 h2
    have l1 : loA ch i = 48 := by unfold loA; rw [if_neg h1]
    have l2 : hiA ch i = 57 := by unfold hiA; rw [if_neg (fun w => w.elim h2 h1)]
    rw [l1, l2] at hq
    simp only [s_85_0, s_85_1, s_85_3, s_85_6, s_85_7, s_85_8, s_85_11, s_85_12, s_85_14, s_85_17, s_85_18, s_85_20, s_85_23, s_85_24, s_85_27, s_85_28, s_85_29, s_85_30, s_85_32, s_85_35, s_85_36, s_85_37, s_85_40, s_85_41, s_85_43, s_85_46, s_85_47, s_85_49, s_85_52, s_85_53, s_85_56, s_85_57, s_85_58, s_85_62, true_and, and_true, sc0, sc1, sc2, sc3, sc4, Option.toList, List.cons_append, List.nil_append, clr, ne_eq, not_false_eq_true, not_true_eq_false, false_and, and_false, true_or, or_true, or_false, false_or, forall_const, Nat.reduceEqDiff, List.length_nil, List.length_cons, Nat.zero_le, Nat.reduceAdd, Nat.reduceLeDiff, false_implies, true_implies, Int.reduceEq, Int.reduceNe, Int.reduceLT, Int.reduceLE, Int.reduceNeg, Int.reduceToNat, Int.toNat_natCast, Nat.reduceLT, and_self, Decidable.not_not]
    refine s_85_59 (Nat.le_of_ble_eq_true rfl) (c_isDigit d (by omega)) ?_
    by_cases w : 48 ≤ x ∧ x ≤ 57
    · rw [if_pos w] at hq ⊢
      simp only [s_85_0, s_85_1, s_85_3, s_85_6, s_85_7, s_85_8, s_85_11, s_85_12, s_85_14, s_85_17, s_85_18, s_85_20, s_85_23, s_85_24, s_85_27, s_85_28, s_85_29, s_85_30, s_85_32, s_85_35, s_85_36, s_85_37, s_85_40, s_85_41, s_85_43, s_85_46, s_85_47, s_85_49, s_85_52, s_85_53, s_85_56, s_85_57, s_85_58, s_85_62, true_and, and_true, sc0, sc1, sc2, sc3, sc4, Option.toList, List.cons_append, List.nil_append, clr, ne_eq, not_false_eq_true, not_true_eq_false, false_and, and_false, true_or, or_true, or_false, false_or, forall_const, Nat.reduceEqDiff, List.length_nil, List.length_cons, Nat.zero_le, Nat.reduceAdd, Nat.reduceLeDiff, false_implies, true_implies, Int.reduceEq, Int.reduceNe, Int.reduceLT, Int.reduceLE, Int.reduceNeg, Int.reduceToNat, Int.toNat_natCast, Nat.reduceLT, and_self, Decidable.not_not]
      exact hq
    · rw [if_neg w] at hq ⊢
      simp only [s_85_0, s_85_1, s_85_3, s_85_6, s_85_7, s_85_8, s_85_11, s_85_12, s_85_14, s_85_17, s_85_18, s_85_20, s_85_23, s_85_24, s_85_27, s_85_28, s_85_29, s_85_30, s_85_32, s_85_35, s_85_36, s_85_37, s_85_40, s_85_41, s_85_43, s_85_46, s_85_47, s_85_49, s_85_52, s_85_53, s_85_56, s_85_57, s_85_58, s_85_62, true_and, and_true, sc0, sc1, sc2, sc3, sc4, Option.toList, List.cons_append, List.nil_append, clr, ne_eq, not_false_eq_true, not_true_eq_false, false_and, and_false, true_or, or_true, or_false, false_or, forall_const, Nat.reduceEqDiff, List.length_nil, List.length_cons, Nat.zero_le, Nat.reduceAdd, Nat.reduceLeDiff, false_implies, true_implies, Int.reduceEq, Int.reduceNe, Int.reduceLT, Int.reduceLE, Int.reduceNeg, Int.reduceToNat, Int.toNat_natCast, Nat.reduceLT, and_self, Decidable.not_not]
      exact hq
  by_cases c1 : ch = 98
  · have n1 : ¬ ch = 103 := by omega
    by_cases c2 : i = 3
    · have l1 : loA ch i = 48 := by unfold loA; rw [if_neg (fun w => n1 w.1)]
      have l2 : hiA ch i = 51 := by unfold hiA; rw [if_pos (Or.inl ⟨c1, c2⟩)]
      rw [l1, l2] at hq
      have c2' : (i : Int) = 3 := by omega
      by_cases w1 : x < 48
      · rw [if_neg (by omega)] at hq
        simp only [s_85_0, s_85_1, s_85_3, s_85_6, s_85_7, s_85_8, s_85_11, s_85_12, s_85_14, s_85_17, s_85_18, s_85_20, s_85_23, s_85_24, s_85_27, s_85_28, s_85_29, s_85_30, s_85_32, s_85_35, s_85_36, s_85_37, s_85_40, s_85_41, s_85_43, s_85_46, s_85_47, s_85_49, s_85_52, s_85_53, s_85_56, s_85_57, s_85_58, s_85_62, true_and, and_true, sc0, sc1, sc2, sc3, sc4, Option.toList, List.cons_append, List.nil_append, clr, ne_eq, not_false_eq_true, not_true_eq_false, false_and, and_false, true_or, or_true, or_false, false_or, forall_const, Nat.reduceEqDiff, List.length_nil, List.length_cons, Nat.zero_le, Nat.reduceAdd, Nat.reduceLeDiff, false_implies, true_implies, Int.reduceEq, Int.reduceNe, Int.reduceLT, Int.reduceLE, Int.reduceNeg, Int.reduceToNat, Int.toNat_natCast, Nat.reduceLT, and_self, Decidable.not_not, c1, c2', w1]
        exact hq
      by_cases w2 : 51 < x
      · rw [if_neg (by omega)] at hq
        simp only [s_85_0, s_85_1, s_85_3, s_85_6, s_85_7, s_85_8, s_85_11, s_85_12, s_85_14, s_85_17, s_85_18, s_85_20, s_85_23, s_85_24, s_85_27, s_85_28, s_85_29, s_85_30, s_85_32, s_85_35, s_85_36, s_85_37, s_85_40, s_85_41, s_85_43, s_85_46, s_85_47, s_85_49, s_85_52, s_85_53, s_85_56, s_85_57, s_85_58, s_85_62, true_and, and_true, sc0, sc1, sc2, sc3, sc4, Option.toList, List.cons_append, List.nil_append, clr, ne_eq, not_false_eq_true, not_true_eq_false, false_and, and_false, true_or, or_true, or_false, false_or, forall_const, Nat.reduceEqDiff, List.length_nil, List.length_cons, Nat.zero_le, Nat.reduceAdd, Nat.reduceLeDiff, false_implies, true_implies, Int.reduceEq, Int.reduceNe, Int.reduceLT, Int.reduceLE, Int.reduceNeg, Int.reduceToNat, Int.toNat_natCast, Nat.reduceLT, and_self, Decidable.not_not, c1, c2', w1, w2]
        exact hq
      · rw [if_pos (by omega)] at hq
        simp only [s_85_0, s_85_1, s_85_3, s_85_6, s_85_7, s_85_8, s_85_11, s_85_12, s_85_14, s_85_17, s_85_18, s_85_20, s_85_23, s_85_24, s_85_27, s_85_28, s_85_29, s_85_30, s_85_32, s_85_35, s_85_36, s_85_37, s_85_40, s_85_41, s_85_43, s_85_46, s_85_47, s_85_49, s_85_52, s_85_53, s_85_56, s_85_57, s_85_58, s_85_62, true_and, and_true, sc0, sc1, sc2, sc3, sc4, Option.toList, List.cons_append, List.nil_append, clr, ne_eq, not_false_eq_true, not_true_eq_false, false_and, and_false, true_or, or_true, or_false, false_or, forall_const, Nat.reduceEqDiff, List.length_nil, List.length_cons, Nat.zero_le, Nat.reduceAdd, Nat.reduceLeDiff, false_implies, true_implies, Int.reduceEq, Int.reduceNe, Int.reduceLT, Int.reduceLE, Int.reduceNeg, Int.reduceToNat, Int.toNat_natCast, Nat.reduceLT, and_self, Decidable.not_not, c1, c2', w1, w2]
        exact hq
    · have c2' : ¬ (i : Int) = 3 := by omega
      have := any (fun w => n1 w.1) (fun w => c2 w.2)
      rw [c1] at this
      simp only [s_85_0, s_85_1, s_85_3, s_85_6, s_85_7, s_85_8, s_85_11, s_85_12, s_85_14, s_85_17, s_85_18, s_85_20, s_85_23, s_85_24, s_85_27, s_85_28, s_85_29, s_85_30, s_85_32, s_85_35, s_85_36, s_85_37, s_85_40, s_85_41, s_85_43, s_85_46, s_85_47, s_85_49, s_85_52, s_85_53, s_85_56, s_85_57, s_85_62, true_and, and_true, sc0, sc1, sc2, sc3, sc4, Option.toList, List.cons_append, List.nil_append, clr, ne_eq, not_false_eq_true, not_true_eq_false, false_and, and_false, true_or, or_true, or_false, false_or, forall_const, Nat.reduceEqDiff, List.length_nil, List.length_cons, Nat.zero_le, Nat.reduceAdd, Nat.reduceLeDiff, false_implies, true_implies, Int.reduceEq, Int.reduceNe, Int.reduceLT, Int.reduceLE, Int.reduceNeg, Int.reduceToNat, Int.toNat_natCast, Nat.reduceLT, and_self, Decidable.not_not, c1, c2']
      exact this
  by_cases c3 : ch = 103
  · by_cases c2 : i = 2
    · have l1 : loA ch i = 49 := by unfold loA; rw [if_pos ⟨c3, c2⟩]
      have l2 : hiA ch i = 51 := by unfold hiA; rw [if_pos (Or.inr ⟨c3, c2⟩)]
      rw [l1, l2] at hq
      have c2' : (i : Int) = 2 := by omega
      by_cases w1 : x < 49
      · rw [if_neg (by omega)] at hq
        simp only [s_85_0, s_85_1, s_85_3, s_85_6, s_85_7, s_85_8, s_85_11, s_85_12, s_85_14, s_85_17, s_85_18, s_85_20, s_85_23, s_85_24, s_85_27, s_85_28, s_85_29, s_85_30, s_85_32, s_85_35, s_85_36, s_85_37, s_85_40, s_85_41, s_85_43, s_85_46, s_85_47, s_85_49, s_85_52, s_85_53, s_85_56, s_85_57, s_85_58, s_85_62, true_and, and_true, sc0, sc1, sc2, sc3, sc4, Option.toList, List.cons_append, List.nil_append, clr, ne_eq, not_false_eq_true, not_true_eq_false, false_and, and_false, true_or, or_true, or_false, false_or, forall_const, Nat.reduceEqDiff, List.length_nil, List.length_cons, Nat.zero_le, Nat.reduceAdd, Nat.reduceLeDiff, false_implies, true_implies, Int.reduceEq, Int.reduceNe, Int.reduceLT, Int.reduceLE, Int.reduceNeg, Int.reduceToNat, Int.toNat_natCast, Nat.reduceLT, and_self, Decidable.not_not, c3, c2', w1]
        exact hq
      by_cases w2 : 51 < x
      · rw [if_neg (by omega)] at hq
        simp only [s_85_0, s_85_1, s_85_3, s_85_6, s_85_7, s_85_8, s_85_11, s_85_12, s_85_14, s_85_17, s_85_18, s_85_20, s_85_23, s_85_24, s_85_27, s_85_28, s_85_29, s_85_30, s_85_32, s_85_35, s_85_36, s_85_37, s_85_40, s_85_41, s_85_43, s_85_46, s_85_47, s_85_49, s_85_52, s_85_53, s_85_56, s_85_57, s_85_58, s_85_62, true_and, and_true, sc0, sc1, sc2, sc3, sc4, Option.toList, List.cons_append, List.nil_append, clr, ne_eq, not_false_eq_true, not_true_eq_false, false_and, and_false, true_or, or_true, or_false, false_or, forall_const, Nat.reduceEqDiff, List.length_nil, List.length_cons, Nat.zero_le, Nat.reduceAdd, Nat.reduceLeDiff, false_implies, true_implies, Int.reduceEq, Int.reduceNe, Int.reduceLT, Int.reduceLE, Int.reduceNeg, Int.reduceToNat, Int.toNat_natCast, Nat.reduceLT, and_self, Decidable.not_not, c3, c2', w1, w2]
        exact hq
      · rw [if_pos (by omega)] at hq
        simp only [s_85_0, s_85_1, s_85_3, s_85_6, s_85_7, s_85_8, s_85_11, s_85_12, s_85_14, s_85_17, s_85_18, s_85_20, s_85_23, s_85_24, s_85_27, s_85_28, s_85_29, s_85_30, s_85_32, s_85_35, s_85_36, s_85_37, s_85_40, s_85_41, s_85_43, s_85_46, s_85_47, s_85_49, s_85_52, s_85_53, s_85_56, s_85_57, s_85_58, s_85_62, true_and, and_true, sc0, sc1, sc2, sc3, sc4, Option.toList, List.cons_append, List.nil_append, clr, ne_eq, not_false_eq_true, not_true_eq_false, false_and, and_false, true_or, or_true, or_false, false_or, forall_const, Nat.reduceEqDiff, List.length_nil, List.length_cons, Nat.zero_le, Nat.reduceAdd, Nat.reduceLeDiff, false_implies, true_implies, Int.reduceEq, Int.reduceNe, Int.reduceLT, Int.reduceLE, Int.reduceNeg, Int.reduceToNat, Int.toNat_natCast, Nat.reduceLT, and_self, Decidable.not_not, c3, c2', w1, w2]
        exact hq
    · have c2' : ¬ (i : Int) = 2 := by omega
      have := any (fun w => c2 w.2) (fun w => c1 w.1)
      rw [c3] at this
      simp only [s_85_0, s_85_1, s_85_3, s_85_6, s_85_7, s_85_8, s_85_11, s_85_12, s_85_14, s_85_17, s_85_18, s_85_20, s_85_23, s_85_24, s_85_27, s_85_28, s_85_29, s_85_30, s_85_32, s_85_35, s_85_36, s_85_37, s_85_40, s_85_41, s_85_43, s_85_46, s_85_47, s_85_49, s_85_52, s_85_53, s_85_56, s_85_57, s_85_62, true_and, and_true, sc0, sc1, sc2, sc3, sc4, Option.toList, List.cons_append, List.nil_append, clr, ne_eq, not_false_eq_true, not_true_eq_false, false_and, and_false, true_or, or_true, or_false, false_or, forall_const, Nat.reduceEqDiff, List.length_nil, List.length_cons, Nat.zero_le, Nat.reduceAdd, Nat.reduceLeDiff, false_implies, true_implies, Int.reduceEq, Int.reduceNe, Int.reduceLT, Int.reduceLE, Int.reduceNeg, Int.reduceToNat, Int.toNat_natCast, Nat.reduceLT, and_self, Decidable.not_not, c3, c2']
      exact this
  have := any (fun w => c3 w.1) (fun w => c1 w.1)
  simp only [s_85_0, s_85_1, s_85_3, s_85_6, s_85_7, s_85_8, s_85_11, s_85_12, s_85_14, s_85_17, s_85_18, s_85_20, s_85_23, s_85_24, s_85_27, s_85_28, s_85_29, s_85_30, s_85_32, s_85_35, s_85_36, s_85_37, s_85_40, s_85_41, s_85_43, s_85_46, s_85_47, s_85_49, s_85_52, s_85_53, s_85_56, s_85_57, s_85_62, true_and, and_true, sc0, sc1, sc2, sc3, sc4, Option.toList, List.cons_append, List.nil_append, clr, ne_eq, not_false_eq_true, not_true_eq_false, false_and, and_false, true_or, or_true, or_false, false_or, forall_const, Nat.reduceEqDiff, List.length_nil, List.length_cons, Nat.zero_le, Nat.reduceAdd, Nat.reduceLeDiff, false_implies, true_implies, Int.reduceEq, Int.reduceNe, Int.reduceLT, Int.reduceLE, Int.reduceNeg, Int.reduceToNat, Int.toNat_natCast, Nat.reduceLT, and_self, Decidable.not_not, c1, c3]
  exact this
theorem c_yearFault (hl : ln ≤ 80) (hla : la = min ln 60) (hT : ∀ j, j < 80 → M 2 j = T j ∧ 0 ≤ T j ∧ T j < 256) : Cw 3 83 [pR 1, pI (ln : Int)] LC (PC b) M (fun x P' M' => P' = PC b ∧ M' = M ∧ (∀ w, yP T la ln r c la 0 = Sum.inl w → x = some (pI (w : Int))) ∧ (∀ l, yP T la ln r c la 0 = Sum.inr l → x = some (pI (-1)))) := by
  refine Cw_k [some (pR 1), some (pI (ln : Int)), none, none, none, none, none] (Nat.le_of_ble_eq_true rfl) rfl (fun d hd Q X hQ => ?_)
  have hmin : (if (60 : Int) < (ln : Int) then 60 else (ln : Int)) = (la : Int) := by split <;> omega
  have bad : ∀ w, yP T la ln r c la 0 = Sum.inl w → Q (some (pI (w : Int))) (kz LC) (PC b) M := fun w hw => hQ _ _ _ ⟨rfl, rfl, fun w' hw' => by rw [hw] at hw'; obtain rfl := Sum.inl.inj hw'; rfl, fun l hl => by rw [hw] at hl; cases hl⟩
  have good : ∀ l, yP T la ln r c la 0 = Sum.inr l → Q (some (pI (-1))) (kz LC) (PC b) M := fun l hl => hQ _ _ _ ⟨rfl, rfl, fun w' hw' => (by rw [hl] at hw'; cases hw'), fun _ _ => rfl⟩
  have fin : ∀ (p : Nat) (l4 l5 l6 : Option PV), la ≤ p → (∀ w, (if la < ln then Sum.inl la else Sum.inr [] : Nat ⊕ List (Int × Int × Int)) = Sum.inl w → yP T la ln r c la 0 = Sum.inl w) → (∀ l, (if la < ln then Sum.inl la else Sum.inr [] : Nat ⊕ List (Int × Int × Int)) = Sum.inr l → ∃ l, yP T la ln r c la 0 = Sum.inr l) → wpB (Ev d) 83 Q X 9 [some (pR 1), some (pI (ln : Int)), some (pI (la : Int)), some (pI (p : Int)), l4, l5, l6] [] (kz LC) (PC b) M := by
    intro p l4 l5 l6 hp h1 h2
    have g1 : (la : Int) ≤ (p : Int) := by omega
    rw [s_83_9]
    by_cases c1 : la < ln
    · rw [if_pos c1] at h1
      have := bad la (h1 la rfl)
      have g2 : ¬ (ln : Int) ≤ (la : Int) := by omega
      simp only [s_83_0, s_83_1, s_83_3, s_83_6, s_83_7, s_83_8, s_83_10, s_83_11, s_83_14, s_83_15, s_83_18, s_83_19, s_83_20, s_83_22, s_83_27, s_83_29, s_83_31, s_83_34, s_83_35, s_83_36, s_83_37, s_83_41, s_83_43, s_83_46, s_83_47, s_83_49, s_83_50, s_83_51, s_83_54, s_83_56, s_83_58, s_83_59, s_83_62, s_83_63, s_83_65, s_83_66, s_83_70, s_83_73, s_83_74, s_83_76, s_83_77, s_83_78, s_83_81, s_83_84, s_83_85, s_83_86, s_83_88, s_83_89, s_83_90, s_83_91, s_83_94, s_83_95, s_83_96, s_83_99, s_83_100, s_83_103, s_83_104, true_and, and_true, sc0, sc1, sc2, sc3, sc4, Option.toList, List.cons_append, List.nil_append, clr, ne_eq, not_false_eq_true, not_true_eq_false, false_and, and_false, true_or, or_true, or_false, false_or, forall_const, Nat.reduceEqDiff, List.length_nil, List.length_cons, Nat.zero_le, Nat.reduceAdd, Nat.reduceLeDiff, false_implies, true_implies, Int.reduceEq, Int.reduceNe, Int.reduceLT, Int.reduceLE, Int.reduceNeg, Int.reduceToNat, Int.toNat_natCast, Nat.reduceLT, and_self, Decidable.not_not, kC_0, kC_1, kC_2, kC_3, kC_4, kC_5, kC_6, kC_7, kC_8, kC_9, kC_10, kC_11, kC_12, kC_13, kC_14, kC_15, kC_16, kC_17, kC_18, kC_19, kC_20, kC_21, kC_22, kC_23, kC_24, kC_25, kC_26, kC_27, kC_28, kC_29, kC_30, kC_31, kC_32, kC_145, kC_146, kC_147, kC_148, kC_149, kC_150, kC_151, kC_164, kC_165, kC_166, kC_167, kC_168, kC_169, kC_170, kC_171, kC_172, kC_173, kC_174, kC_175, kC_176, kC_177, kC_178, kC_179, kC_180, kC_181, kC_182, kC_183, kC_184, pC_1_0, pC_1_2, pC_1_3, pC_1_4, pC_1_5, pC_1_6, pC_1_7, pC_1_8, pC_1_9, pC_1_10, pC_1_11, pC_3_5, pC_5_0, pC_5_1, pC_5_2, pC_5_6, pC_5_7, pC_5_8, pC_5_9, pC_5_10, pC_13_0, pC_13_1, pC_13_2, pC_13_6, pC_13_7, pC_13_8, pC_13_9, pC_13_10, pC_21_0, pC_21_1, pC_21_2, pC_21_6, pC_21_7, pC_21_8, pC_21_9, pC_21_10, pC_29_0, pC_29_1, pC_29_2, pC_145_0, pC_145_1, pC_145_2, pC_145_3, pC_145_4, pC_149_0, pC_149_1, pC_149_2, pC_164_1, pC_164_2, pC_164_3, pC_168_0, pC_168_3, pC_168_4, pC_168_5, pC_172_0, pC_175_0, pC_175_2, pC_175_3, pC_175_5, pC_180_0, pC_180_2, pC_180_3, pC_180_5, g1, g2]
      exact this
    · rw [if_neg c1] at h2
      obtain ⟨l, hl⟩ := h2 [] rfl
      have := good l hl
      have g2 : (ln : Int) ≤ (la : Int) := by omega
      simp only [s_83_0, s_83_1, s_83_3, s_83_6, s_83_7, s_83_8, s_83_10, s_83_11, s_83_14, s_83_15, s_83_18, s_83_19, s_83_20, s_83_22, s_83_27, s_83_29, s_83_31, s_83_34, s_83_35, s_83_36, s_83_37, s_83_41, s_83_43, s_83_46, s_83_47, s_83_49, s_83_50, s_83_51, s_83_54, s_83_56, s_83_58, s_83_59, s_83_62, s_83_63, s_83_65, s_83_66, s_83_70, s_83_73, s_83_74, s_83_76, s_83_77, s_83_78, s_83_81, s_83_84, s_83_85, s_83_86, s_83_88, s_83_89, s_83_90, s_83_91, s_83_94, s_83_95, s_83_96, s_83_99, s_83_100, s_83_103, s_83_104, true_and, and_true, sc0, sc1, sc2, sc3, sc4, Option.toList, List.cons_append, List.nil_append, clr, ne_eq, not_false_eq_true, not_true_eq_false, false_and, and_false, true_or, or_true, or_false, false_or, forall_const, Nat.reduceEqDiff, List.length_nil, List.length_cons, Nat.zero_le, Nat.reduceAdd, Nat.reduceLeDiff, false_implies, true_implies, Int.reduceEq, Int.reduceNe, Int.reduceLT, Int.reduceLE, Int.reduceNeg, Int.reduceToNat, Int.toNat_natCast, Nat.reduceLT, and_self, Decidable.not_not, kC_0, kC_1, kC_2, kC_3, kC_4, kC_5, kC_6, kC_7, kC_8, kC_9, kC_10, kC_11, kC_12, kC_13, kC_14, kC_15, kC_16, kC_17, kC_18, kC_19, kC_20, kC_21, kC_22, kC_23, kC_24, kC_25, kC_26, kC_27, kC_28, kC_29, kC_30, kC_31, kC_32, kC_145, kC_146, kC_147, kC_148, kC_149, kC_150, kC_151, kC_164, kC_165, kC_166, kC_167, kC_168, kC_169, kC_170, kC_171, kC_172, kC_173, kC_174, kC_175, kC_176, kC_177, kC_178, kC_179, kC_180, kC_181, kC_182, kC_183, kC_184, pC_1_0, pC_1_2, pC_1_3, pC_1_4, pC_1_5, pC_1_6, pC_1_7, pC_1_8, pC_1_9, pC_1_10, pC_1_11, pC_3_5, pC_5_0, pC_5_1, pC_5_2, pC_5_6, pC_5_7, pC_5_8, pC_5_9, pC_5_10, pC_13_0, pC_13_1, pC_13_2, pC_13_6, pC_13_7, pC_13_8, pC_13_9, pC_13_10, pC_21_0, pC_21_1, pC_21_2, pC_21_6, pC_21_7, pC_21_8, pC_21_9, pC_21_10, pC_29_0, pC_29_1, pC_29_2, pC_145_0, pC_145_1, pC_145_2, pC_145_3, pC_145_4, pC_149_0, pC_149_1, pC_149_2, pC_164_1, pC_164_2, pC_164_3, pC_168_0, pC_168_3, pC_168_4, pC_168_5, pC_172_0, pC_175_0, pC_175_2, pC_175_3, pC_175_5, pC_180_0, pC_180_2, pC_180_3, pC_180_5, g1, g2]
      exact this
  have main : ∀ (k p : Nat) (l4 l5 l6 : Option PV), la ≤ p + k → p ≤ la → (∀ w, yP T la ln r c k p = Sum.inl w → yP T la ln r c la 0 = Sum.inl w) → (∀ l, yP T la ln r c k p = Sum.inr l → ∃ l, yP T la ln r c la 0 = Sum.inr l) → wpB (Ev d) 83 Q X 9 [some (pR 1), some (pI (ln : Int)), some (pI (la : Int)), some (pI (p : Int)), l4, l5, l6] [] (kz LC) (PC b) M := by
    obtain ⟨g0, hg0⟩ : ∃ g, g = yP T la ln r c la 0 := ⟨_, rfl⟩
    rw [← hg0] at bad good fin ⊢
    intro k
    induction k with
    | zero =>
      intro p l4 l5 l6 h1 h2 h3 h4
      exact fin p _ _ _ (by omega) h3 h4
    | succ k ih =>
      intro p l4 l5 l6 h1 h2 h3 h4
      unfold yP at h3 h4
      by_cases c1 : la ≤ p
      · rw [if_pos c1] at h3 h4
        exact fin p _ _ _ c1 h3 h4
      rw [if_neg c1] at h3 h4
      have g1 : ¬ (la : Int) ≤ (p : Int) := by omega
      have bp : (0 : Int) ≤ (p : Int) ∧ (p : Int) < ((80 : Nat) : Int) := by omega
      have tp := (hT p (by omega)).1
      rw [s_83_9]
      simp only [s_83_0, s_83_1, s_83_3, s_83_6, s_83_7, s_83_8, s_83_10, s_83_11, s_83_14, s_83_15, s_83_18, s_83_19, s_83_20, s_83_22, s_83_27, s_83_29, s_83_31, s_83_34, s_83_35, s_83_36, s_83_37, s_83_41, s_83_43, s_83_46, s_83_47, s_83_49, s_83_50, s_83_51, s_83_54, s_83_56, s_83_58, s_83_59, s_83_62, s_83_63, s_83_65, s_83_66, s_83_70, s_83_73, s_83_74, s_83_76, s_83_77, s_83_78, s_83_81, s_83_84, s_83_85, s_83_86, s_83_88, s_83_89, s_83_90, s_83_91, s_83_94, s_83_95, s_83_96, s_83_99, s_83_100, s_83_103, s_83_104, true_and, and_true, sc0, sc1, sc2, sc3, sc4, Option.toList, List.cons_append, List.nil_append, clr, ne_eq, not_false_eq_true, not_true_eq_false, false_and, and_false, true_or, or_true, or_false, false_or, forall_const, Nat.reduceEqDiff, List.length_nil, List.length_cons, Nat.zero_le, Nat.reduceAdd, Nat.reduceLeDiff, false_implies, true_implies, Int.reduceEq, Int.reduceNe, Int.reduceLT, Int.reduceLE, Int.reduceNeg, Int.reduceToNat, Int.toNat_natCast, Nat.reduceLT, and_self, Decidable.not_not, kC_0, kC_1, kC_2, kC_3, kC_4, kC_5, kC_6, kC_7, kC_8, kC_9, kC_10, kC_11, kC_12, kC_13, kC_14, kC_15, kC_16, kC_17, kC_18, kC_19, kC_20, kC_21, kC_22, kC_23, kC_24, kC_25, kC_26, kC_27, kC_28, kC_29, kC_30, kC_31, kC_32, kC_145, kC_146, kC_147, kC_148, kC_149, kC_150, kC_151, kC_164, kC_165, kC_166, kC_167, kC_168, kC_169, kC_170, kC_171, kC_172, kC_173, kC_174, kC_175, kC_176, kC_177, kC_178, kC_179, kC_180, kC_181, kC_182, kC_183, kC_184, pC_1_0, pC_1_2, pC_1_3, pC_1_4, pC_1_5, pC_1_6, pC_1_7, pC_1_8, pC_1_9, pC_1_10, pC_1_11, pC_3_5, pC_5_0, pC_5_1, pC_5_2, pC_5_6, pC_5_7, pC_5_8, pC_5_9, pC_5_10, pC_13_0, pC_13_1, pC_13_2, pC_13_6, pC_13_7, pC_13_8, pC_13_9, pC_13_10, pC_21_0, pC_21_1, pC_21_2, pC_21_6, pC_21_7, pC_21_8, pC_21_9, pC_21_10, pC_29_0, pC_29_1, pC_29_2, pC_145_0, pC_145_1, pC_145_2, pC_145_3, pC_145_4, pC_149_0, pC_149_1, pC_149_2, pC_164_1, pC_164_2, pC_164_3, pC_168_0, pC_168_3, pC_168_4, pC_168_5, pC_172_0, pC_175_0, pC_175_2, pC_175_3, pC_175_5, pC_180_0, pC_180_2, pC_180_3, pC_180_5, g1, bp, tp]
      refine s_83_24 (Nat.le_of_ble_eq_true rfl) (c_digitsOf d (by omega)) ?_
      have hd3 := dgA_b (T p)
      by_cases c2 : dgA (T p) = 0
      · have ef : aF T la p = (p : Int) := by unfold aF; rw [if_pos c2]
        rw [ef, if_pos (by omega)] at h3
        have := bad p (h3 p rfl)
        have g2 : ((dgA (T p) : Nat) : Int) = 0 := by omega
        simp only [s_83_0, s_83_1, s_83_3, s_83_6, s_83_7, s_83_8, s_83_10, s_83_11, s_83_14, s_83_15, s_83_18, s_83_19, s_83_20, s_83_22, s_83_27, s_83_29, s_83_31, s_83_34, s_83_35, s_83_36, s_83_37, s_83_41, s_83_43, s_83_46, s_83_47, s_83_49, s_83_50, s_83_51, s_83_54, s_83_56, s_83_58, s_83_59, s_83_62, s_83_63, s_83_65, s_83_66, s_83_70, s_83_73, s_83_74, s_83_76, s_83_77, s_83_78, s_83_81, s_83_84, s_83_85, s_83_86, s_83_88, s_83_89, s_83_90, s_83_91, s_83_94, s_83_95, s_83_96, s_83_99, s_83_100, s_83_103, s_83_104, true_and, and_true, sc0, sc1, sc2, sc3, sc4, Option.toList, List.cons_append, List.nil_append, clr, ne_eq, not_false_eq_true, not_true_eq_false, false_and, and_false, true_or, or_true, or_false, false_or, forall_const, Nat.reduceEqDiff, List.length_nil, List.length_cons, Nat.zero_le, Nat.reduceAdd, Nat.reduceLeDiff, false_implies, true_implies, Int.reduceEq, Int.reduceNe, Int.reduceLT, Int.reduceLE, Int.reduceNeg, Int.reduceToNat, Int.toNat_natCast, Nat.reduceLT, and_self, Decidable.not_not, kC_0, kC_1, kC_2, kC_3, kC_4, kC_5, kC_6, kC_7, kC_8, kC_9, kC_10, kC_11, kC_12, kC_13, kC_14, kC_15, kC_16, kC_17, kC_18, kC_19, kC_20, kC_21, kC_22, kC_23, kC_24, kC_25, kC_26, kC_27, kC_28, kC_29, kC_30, kC_31, kC_32, kC_145, kC_146, kC_147, kC_148, kC_149, kC_150, kC_151, kC_164, kC_165, kC_166, kC_167, kC_168, kC_169, kC_170, kC_171, kC_172, kC_173, kC_174, kC_175, kC_176, kC_177, kC_178, kC_179, kC_180, kC_181, kC_182, kC_183, kC_184, pC_1_0, pC_1_2, pC_1_3, pC_1_4, pC_1_5, pC_1_6, pC_1_7, pC_1_8, pC_1_9, pC_1_10, pC_1_11, pC_3_5, pC_5_0, pC_5_1, pC_5_2, pC_5_6, pC_5_7, pC_5_8, pC_5_9, pC_5_10, pC_13_0, pC_13_1, pC_13_2, pC_13_6, pC_13_7, pC_13_8, pC_13_9, pC_13_10, pC_21_0, pC_21_1, pC_21_2, pC_21_6, pC_21_7, pC_21_8, pC_21_9, pC_21_10, pC_29_0, pC_29_1, pC_29_2, pC_145_0, pC_145_1, pC_145_2, pC_145_3, pC_145_4, pC_149_0, pC_149_1, pC_149_2, pC_164_1, pC_164_2, pC_164_3, pC_168_0, pC_168_3, pC_168_4, pC_168_5, pC_172_0, pC_175_0, pC_175_2, pC_175_3, pC_175_5, pC_180_0, pC_180_2, pC_180_3, pC_180_5, g2]
        exact this
      have g2 : ¬ ((dgA (T p) : Nat) : Int) = 0 := by omega
      have ef : aF T la p = aS T la (T p) p (dgA (T p)) 1 := by unfold aF; rw [if_neg c2]
      have ep := aF_p (T := T) (la := la) (p := p)
      obtain ⟨g, hg⟩ : ∃ g, g = dgA (T p) := ⟨_, rfl⟩
      rw [← hg] at hd3 g2 ef ep h3 h4 ⊢
      have inner : ∀ (m i : Nat), i + m = g + 1 → 1 ≤ i → aF T la p = aS T la (T p) p m i → wpB (Ev d) 83 Q X 39 [some (pR 1), some (pI (ln : Int)), some (pI (la : Int)), some (pI (p : Int)), some (pI (T p)), some (pI (g : Int)), some (pI (i : Int))] [] (kz LC) (PC b) M := by
        intro m
        induction m with
        | zero =>
          intro i hi hi1 he
          have hneg : ¬ 0 ≤ aF T la p := by rw [he]; unfold aS; decide
          rw [if_neg hneg] at h3 h4
          have a1 : (g : Int) < (i : Int) := by omega
          have a2 : ¬ (i : Int) ≤ (g : Int) := by omega
          have e1 := EqW_i (show w32 (1 + (g : Int)) = ((1 + g : Nat) : Int) by rw [w32s (by omega)]; omega)
          have e2 := EqW_i (show w32 ((p : Int) + ((1 + g : Nat) : Int)) = ((p + 1 + g : Nat) : Int) by rw [w32s (by omega)]; omega)
          have := ih (p + 1 + g) (some (pI (T p))) (some (pI (g : Int))) (some (pI (i : Int))) (by omega) (ep hneg (by omega)) (fun w hw => h3 w (by rw [hw]; rfl)) (fun l hl => h4 (acT T r c p :: l) (by rw [hl]; rfl))
          rw [s_83_39]
          simp only [s_83_0, s_83_1, s_83_3, s_83_6, s_83_7, s_83_8, s_83_10, s_83_11, s_83_14, s_83_15, s_83_18, s_83_19, s_83_20, s_83_22, s_83_27, s_83_29, s_83_31, s_83_34, s_83_35, s_83_36, s_83_37, s_83_41, s_83_43, s_83_46, s_83_47, s_83_49, s_83_50, s_83_51, s_83_54, s_83_56, s_83_58, s_83_59, s_83_62, s_83_63, s_83_65, s_83_66, s_83_70, s_83_73, s_83_74, s_83_76, s_83_77, s_83_78, s_83_81, s_83_84, s_83_85, s_83_86, s_83_88, s_83_89, s_83_90, s_83_91, s_83_94, s_83_95, s_83_96, s_83_99, s_83_100, s_83_103, s_83_104, true_and, and_true, sc0, sc1, sc2, sc3, sc4, Option.toList, List.cons_append, List.nil_append, clr, ne_eq, not_false_eq_true, not_true_eq_false, false_and, and_false, true_or, or_true, or_false, false_or, forall_const, Nat.reduceEqDiff, List.length_nil, List.length_cons, Nat.zero_le, Nat.reduceAdd, Nat.reduceLeDiff, false_implies, true_implies, Int.reduceEq, Int.reduceNe, Int.reduceLT, Int.reduceLE, Int.reduceNeg, Int.reduceToNat, Int.toNat_natCast, Nat.reduceLT, and_self, Decidable.not_not, kC_0, kC_1, kC_2, kC_3, kC_4, kC_5, kC_6, kC_7, kC_8, kC_9, kC_10, kC_11, kC_12, kC_13, kC_14, kC_15, kC_16, kC_17, kC_18, kC_19, kC_20, kC_21, kC_22, kC_23, kC_24, kC_25, kC_26, kC_27, kC_28, kC_29, kC_30, kC_31, kC_32, kC_145, kC_146, kC_147, kC_148, kC_149, kC_150, kC_151, kC_164, kC_165, kC_166, kC_167, kC_168, kC_169, kC_170, kC_171, kC_172, kC_173, kC_174, kC_175, kC_176, kC_177, kC_178, kC_179, kC_180, kC_181, kC_182, kC_183, kC_184, pC_1_0, pC_1_2, pC_1_3, pC_1_4, pC_1_5, pC_1_6, pC_1_7, pC_1_8, pC_1_9, pC_1_10, pC_1_11, pC_3_5, pC_5_0, pC_5_1, pC_5_2, pC_5_6, pC_5_7, pC_5_8, pC_5_9, pC_5_10, pC_13_0, pC_13_1, pC_13_2, pC_13_6, pC_13_7, pC_13_8, pC_13_9, pC_13_10, pC_21_0, pC_21_1, pC_21_2, pC_21_6, pC_21_7, pC_21_8, pC_21_9, pC_21_10, pC_29_0, pC_29_1, pC_29_2, pC_145_0, pC_145_1, pC_145_2, pC_145_3, pC_145_4, pC_149_0, pC_149_1, pC_149_2, pC_164_1, pC_164_2, pC_164_3, pC_168_0, pC_168_3, pC_168_4, pC_168_5, pC_172_0, pC_175_0, pC_175_2, pC_175_3, pC_175_5, pC_180_0, pC_180_2, pC_180_3, pC_180_5, a1, a2, EqW_o e1, EqW_o e2]
          exact this
        | succ m ihm =>
          intro i hi hi1 he
          have a1 : ¬ (g : Int) < (i : Int) := by omega
          have a2 : (i : Int) ≤ (g : Int) := by omega
          have ea := EqW_i (show w32 ((p : Int) + (i : Int)) = ((p + i : Nat) : Int) by rw [w32s (by omega)]; rfl)
          have ei := EqW_i (w32n (show i < 1000000 by omega))
          unfold aS at he
          have stop : ¬ plA T la (T p) p i → Q (some (pI ((p + i : Nat) : Int))) (kz LC) (PC b) M := fun w => by
            rw [if_neg w] at he
            rw [he, if_pos (by omega)] at h3
            exact bad (p + i) (h3 (p + i) rfl)
          rw [s_83_39]
          by_cases d1 : la ≤ p + i
          · have a3 : (la : Int) ≤ ((p + i : Nat) : Int) := by omega
            have := stop (fun w => by have := w.1; omega)
            simp only [s_83_0, s_83_1, s_83_3, s_83_6, s_83_7, s_83_8, s_83_10, s_83_11, s_83_14, s_83_15, s_83_18, s_83_19, s_83_20, s_83_22, s_83_27, s_83_29, s_83_31, s_83_34, s_83_35, s_83_36, s_83_37, s_83_41, s_83_43, s_83_46, s_83_47, s_83_49, s_83_50, s_83_51, s_83_54, s_83_56, s_83_58, s_83_59, s_83_62, s_83_63, s_83_65, s_83_66, s_83_70, s_83_73, s_83_74, s_83_76, s_83_77, s_83_78, s_83_81, s_83_84, s_83_85, s_83_86, s_83_88, s_83_89, s_83_90, s_83_91, s_83_94, s_83_95, s_83_96, s_83_99, s_83_100, s_83_103, s_83_104, true_and, and_true, sc0, sc1, sc2, sc3, sc4, Option.toList, List.cons_append, List.nil_append, clr, ne_eq, not_false_eq_true, not_true_eq_false, false_and, and_false, true_or, or_true, or_false, false_or, forall_const, Nat.reduceEqDiff, List.length_nil, List.length_cons, Nat.zero_le, Nat.reduceAdd, Nat.reduceLeDiff, false_implies, true_implies, Int.reduceEq, Int.reduceNe, Int.reduceLT, Int.reduceLE, Int.reduceNeg, Int.reduceToNat, Int.toNat_natCast, Nat.reduceLT, and_self, Decidable.not_not, kC_0, kC_1, kC_2, kC_3, kC_4, kC_5, kC_6, kC_7, kC_8, kC_9, kC_10, kC_11, kC_12, kC_13, kC_14, kC_15, kC_16, kC_17, kC_18, kC_19, kC_20, kC_21, kC_22, kC_23, kC_24, kC_25, kC_26, kC_27, kC_28, kC_29, kC_30, kC_31, kC_32, kC_145, kC_146, kC_147, kC_148, kC_149, kC_150, kC_151, kC_164, kC_165, kC_166, kC_167, kC_168, kC_169, kC_170, kC_171, kC_172, kC_173, kC_174, kC_175, kC_176, kC_177, kC_178, kC_179, kC_180, kC_181, kC_182, kC_183, kC_184, pC_1_0, pC_1_2, pC_1_3, pC_1_4, pC_1_5, pC_1_6, pC_1_7, pC_1_8, pC_1_9, pC_1_10, pC_1_11, pC_3_5, pC_5_0, pC_5_1, pC_5_2, pC_5_6, pC_5_7, pC_5_8, pC_5_9, pC_5_10, pC_13_0, pC_13_1, pC_13_2, pC_13_6, pC_13_7, pC_13_8, pC_13_9, pC_13_10, pC_21_0, pC_21_1, pC_21_2, pC_21_6, pC_21_7, pC_21_8, pC_21_9, pC_21_10, pC_29_0, pC_29_1, pC_29_2, pC_145_0, pC_145_1, pC_145_2, pC_145_3, pC_145_4, pC_149_0, pC_149_1, pC_149_2, pC_164_1, pC_164_2, pC_164_3, pC_168_0, pC_168_3, pC_168_4, pC_168_5, pC_172_0, pC_175_0, pC_175_2, pC_175_3, pC_175_5, pC_180_0, pC_180_2, pC_180_3, pC_180_5, a1, a2, EqW_o ea, a3]
            exact this
          have a3 : ¬ (la : Int) ≤ ((p + i : Nat) : Int) := by omega
          have bq : (0 : Int) ≤ ((p + i : Nat) : Int) ∧ ((p + i : Nat) : Int) < ((80 : Nat) : Int) := by omega
          have tq := (hT (p + i) (by omega)).1
          simp only [s_83_0, s_83_1, s_83_3, s_83_6, s_83_7, s_83_8, s_83_10, s_83_11, s_83_14, s_83_15, s_83_18, s_83_19, s_83_20, s_83_22, s_83_27, s_83_29, s_83_31, s_83_34, s_83_35, s_83_36, s_83_37, s_83_41, s_83_43, s_83_46, s_83_47, s_83_49, s_83_50, s_83_51, s_83_54, s_83_56, s_83_58, s_83_59, s_83_62, s_83_63, s_83_65, s_83_66, s_83_70, s_83_73, s_83_74, s_83_76, s_83_77, s_83_78, s_83_81, s_83_84, s_83_85, s_83_86, s_83_88, s_83_89, s_83_90, s_83_91, s_83_94, s_83_95, s_83_96, s_83_99, s_83_100, s_83_103, s_83_104, true_and, and_true, sc0, sc1, sc2, sc3, sc4, Option.toList, List.cons_append, List.nil_append, clr, ne_eq, not_false_eq_true, not_true_eq_false, false_and, and_false, true_or, or_true, or_false, false_or, forall_const, Nat.reduceEqDiff, List.length_nil, List.length_cons, Nat.zero_le, Nat.reduceAdd, Nat.reduceLeDiff, false_implies, true_implies, Int.reduceEq, Int.reduceNe, Int.reduceLT, Int.reduceLE, Int.reduceNeg, Int.reduceToNat, Int.toNat_natCast, Nat.reduceLT, and_self, Decidable.not_not, kC_0, kC_1, kC_2, kC_3, kC_4, kC_5, kC_6, kC_7, kC_8, kC_9, kC_10, kC_11, kC_12, kC_13, kC_14, kC_15, kC_16, kC_17, kC_18, kC_19, kC_20, kC_21, kC_22, kC_23, kC_24, kC_25, kC_26, kC_27, kC_28, kC_29, kC_30, kC_31, kC_32, kC_145, kC_146, kC_147, kC_148, kC_149, kC_150, kC_151, kC_164, kC_165, kC_166, kC_167, kC_168, kC_169, kC_170, kC_171, kC_172, kC_173, kC_174, kC_175, kC_176, kC_177, kC_178, kC_179, kC_180, kC_181, kC_182, kC_183, kC_184, pC_1_0, pC_1_2, pC_1_3, pC_1_4, pC_1_5, pC_1_6, pC_1_7, pC_1_8, pC_1_9, pC_1_10, pC_1_11, pC_3_5, pC_5_0, pC_5_1, pC_5_2, pC_5_6, pC_5_7, pC_5_8, pC_5_9, pC_5_10, pC_13_0, pC_13_1, pC_13_2, pC_13_6, pC_13_7, pC_13_8, pC_13_9, pC_13_10, pC_21_0, pC_21_1, pC_21_2, pC_21_6, pC_21_7, pC_21_8, pC_21_9, pC_21_10, pC_29_0, pC_29_1, pC_29_2, pC_145_0, pC_145_1, pC_145_2, pC_145_3, pC_145_4, pC_149_0, pC_149_1, pC_149_2, pC_164_1, pC_164_2, pC_164_3, pC_168_0, pC_168_3, pC_168_4, pC_168_5, pC_172_0, pC_175_0, pC_175_2, pC_175_3, pC_175_5, pC_180_0, pC_180_2, pC_180_3, pC_180_5, a1, a2, EqW_o ea, a3, bq, tq]
          refine s_83_67 (Nat.le_of_ble_eq_true rfl) (c_digitFits d (by omega)) ?_
          by_cases d2 : loA (T p) i ≤ T (p + i) ∧ T (p + i) ≤ hiA (T p) i
          · rw [if_pos (show plA T la (T p) p i from ⟨by omega, d2.1, d2.2⟩)] at he
            have := ihm (i + 1) (by omega) (by omega) he
            rw [if_pos d2]
            simp only [s_83_0, s_83_1, s_83_3, s_83_6, s_83_7, s_83_8, s_83_10, s_83_11, s_83_14, s_83_15, s_83_18, s_83_19, s_83_20, s_83_22, s_83_27, s_83_29, s_83_31, s_83_34, s_83_35, s_83_36, s_83_37, s_83_41, s_83_43, s_83_46, s_83_47, s_83_49, s_83_50, s_83_51, s_83_54, s_83_56, s_83_58, s_83_59, s_83_62, s_83_63, s_83_65, s_83_66, s_83_70, s_83_73, s_83_74, s_83_76, s_83_77, s_83_78, s_83_81, s_83_84, s_83_85, s_83_86, s_83_88, s_83_89, s_83_90, s_83_91, s_83_94, s_83_95, s_83_96, s_83_99, s_83_100, s_83_103, s_83_104, true_and, and_true, sc0, sc1, sc2, sc3, sc4, Option.toList, List.cons_append, List.nil_append, clr, ne_eq, not_false_eq_true, not_true_eq_false, false_and, and_false, true_or, or_true, or_false, false_or, forall_const, Nat.reduceEqDiff, List.length_nil, List.length_cons, Nat.zero_le, Nat.reduceAdd, Nat.reduceLeDiff, false_implies, true_implies, Int.reduceEq, Int.reduceNe, Int.reduceLT, Int.reduceLE, Int.reduceNeg, Int.reduceToNat, Int.toNat_natCast, Nat.reduceLT, and_self, Decidable.not_not, kC_0, kC_1, kC_2, kC_3, kC_4, kC_5, kC_6, kC_7, kC_8, kC_9, kC_10, kC_11, kC_12, kC_13, kC_14, kC_15, kC_16, kC_17, kC_18, kC_19, kC_20, kC_21, kC_22, kC_23, kC_24, kC_25, kC_26, kC_27, kC_28, kC_29, kC_30, kC_31, kC_32, kC_145, kC_146, kC_147, kC_148, kC_149, kC_150, kC_151, kC_164, kC_165, kC_166, kC_167, kC_168, kC_169, kC_170, kC_171, kC_172, kC_173, kC_174, kC_175, kC_176, kC_177, kC_178, kC_179, kC_180, kC_181, kC_182, kC_183, kC_184, pC_1_0, pC_1_2, pC_1_3, pC_1_4, pC_1_5, pC_1_6, pC_1_7, pC_1_8, pC_1_9, pC_1_10, pC_1_11, pC_3_5, pC_5_0, pC_5_1, pC_5_2, pC_5_6, pC_5_7, pC_5_8, pC_5_9, pC_5_10, pC_13_0, pC_13_1, pC_13_2, pC_13_6, pC_13_7, pC_13_8, pC_13_9, pC_13_10, pC_21_0, pC_21_1, pC_21_2, pC_21_6, pC_21_7, pC_21_8, pC_21_9, pC_21_10, pC_29_0, pC_29_1, pC_29_2, pC_145_0, pC_145_1, pC_145_2, pC_145_3, pC_145_4, pC_149_0, pC_149_1, pC_149_2, pC_164_1, pC_164_2, pC_164_3, pC_168_0, pC_168_3, pC_168_4, pC_168_5, pC_172_0, pC_175_0, pC_175_2, pC_175_3, pC_175_5, pC_180_0, pC_180_2, pC_180_3, pC_180_5, EqW_o ei]
            exact this
          · have := stop (fun w => d2 w.2)
            rw [if_neg d2]
            simp only [s_83_0, s_83_1, s_83_3, s_83_6, s_83_7, s_83_8, s_83_10, s_83_11, s_83_14, s_83_15, s_83_18, s_83_19, s_83_20, s_83_22, s_83_27, s_83_29, s_83_31, s_83_34, s_83_35, s_83_36, s_83_37, s_83_41, s_83_43, s_83_46, s_83_47, s_83_49, s_83_50, s_83_51, s_83_54, s_83_56, s_83_58, s_83_59, s_83_62, s_83_63, s_83_65, s_83_66, s_83_70, s_83_73, s_83_74, s_83_76, s_83_77, s_83_78, s_83_81, s_83_84, s_83_85, s_83_86, s_83_88, s_83_89, s_83_90, s_83_91, s_83_94, s_83_95, s_83_96, s_83_99, s_83_100, s_83_103, s_83_104, true_and, and_true, sc0, sc1, sc2, sc3, sc4, Option.toList, List.cons_append, List.nil_append, clr, ne_eq, not_false_eq_true, not_true_eq_false, false_and, and_false, true_or, or_true, or_false, false_or, forall_const, Nat.reduceEqDiff, List.length_nil, List.length_cons, Nat.zero_le, Nat.reduceAdd, Nat.reduceLeDiff, false_implies, true_implies, Int.reduceEq, Int.reduceNe, Int.reduceLT, Int.reduceLE, Int.reduceNeg, Int.reduceToNat, Int.toNat_natCast, Nat.reduceLT, and_self, Decidable.not_not, kC_0, kC_1, kC_2, kC_3, kC_4, kC_5, kC_6, kC_7, kC_8, kC_9, kC_10, kC_11, kC_12, kC_13, kC_14, kC_15, kC_16, kC_17, kC_18, kC_19, kC_20, kC_21, kC_22, kC_23, kC_24, kC_25, kC_26, kC_27, kC_28, kC_29, kC_30, kC_31, kC_32, kC_145, kC_146, kC_147, kC_148, kC_149, kC_150, kC_151, kC_164, kC_165, kC_166, kC_167, kC_168, kC_169, kC_170, kC_171, kC_172, kC_173, kC_174, kC_175, kC_176, kC_177, kC_178, kC_179, kC_180, kC_181, kC_182, kC_183, kC_184, pC_1_0, pC_1_2, pC_1_3, pC_1_4, pC_1_5, pC_1_6, pC_1_7, pC_1_8, pC_1_9, pC_1_10, pC_1_11, pC_3_5, pC_5_0, pC_5_1, pC_5_2, pC_5_6, pC_5_7, pC_5_8, pC_5_9, pC_5_10, pC_13_0, pC_13_1, pC_13_2, pC_13_6, pC_13_7, pC_13_8, pC_13_9, pC_13_10, pC_21_0, pC_21_1, pC_21_2, pC_21_6, pC_21_7, pC_21_8, pC_21_9, pC_21_10, pC_29_0, pC_29_1, pC_29_2, pC_145_0, pC_145_1, pC_145_2, pC_145_3, pC_145_4, pC_149_0, pC_149_1, pC_149_2, pC_164_1, pC_164_2, pC_164_3, pC_168_0, pC_168_3, pC_168_4, pC_168_5, pC_172_0, pC_175_0, pC_175_2, pC_175_3, pC_175_5, pC_180_0, pC_180_2, pC_180_3, pC_180_5, EqW_o ea]
            exact this
      simp only [s_83_0, s_83_1, s_83_3, s_83_6, s_83_7, s_83_8, s_83_10, s_83_11, s_83_14, s_83_15, s_83_18, s_83_19, s_83_20, s_83_22, s_83_27, s_83_29, s_83_31, s_83_34, s_83_35, s_83_36, s_83_37, s_83_41, s_83_43, s_83_46, s_83_47, s_83_49, s_83_50, s_83_51, s_83_54, s_83_56, s_83_58, s_83_59, s_83_62, s_83_63, s_83_65, s_83_66, s_83_70, s_83_73, s_83_74, s_83_76, s_83_77, s_83_78, s_83_81, s_83_84, s_83_85, s_83_86, s_83_88, s_83_89, s_83_90, s_83_91, s_83_94, s_83_95, s_83_96, s_83_99, s_83_100, s_83_103, s_83_104, true_and, and_true, sc0, sc1, sc2, sc3, sc4, Option.toList, List.cons_append, List.nil_append, clr, ne_eq, not_false_eq_true, not_true_eq_false, false_and, and_false, true_or, or_true, or_false, false_or, forall_const, Nat.reduceEqDiff, List.length_nil, List.length_cons, Nat.zero_le, Nat.reduceAdd, Nat.reduceLeDiff, false_implies, true_implies, Int.reduceEq, Int.reduceNe, Int.reduceLT, Int.reduceLE, Int.reduceNeg, Int.reduceToNat, Int.toNat_natCast, Nat.reduceLT, and_self, Decidable.not_not, kC_0, kC_1, kC_2, kC_3, kC_4, kC_5, kC_6, kC_7, kC_8, kC_9, kC_10, kC_11, kC_12, kC_13, kC_14, kC_15, kC_16, kC_17, kC_18, kC_19, kC_20, kC_21, kC_22, kC_23, kC_24, kC_25, kC_26, kC_27, kC_28, kC_29, kC_30, kC_31, kC_32, kC_145, kC_146, kC_147, kC_148, kC_149, kC_150, kC_151, kC_164, kC_165, kC_166, kC_167, kC_168, kC_169, kC_170, kC_171, kC_172, kC_173, kC_174, kC_175, kC_176, kC_177, kC_178, kC_179, kC_180, kC_181, kC_182, kC_183, kC_184, pC_1_0, pC_1_2, pC_1_3, pC_1_4, pC_1_5, pC_1_6, pC_1_7, pC_1_8, pC_1_9, pC_1_10, pC_1_11, pC_3_5, pC_5_0, pC_5_1, pC_5_2, pC_5_6, pC_5_7, pC_5_8, pC_5_9, pC_5_10, pC_13_0, pC_13_1, pC_13_2, pC_13_6, pC_13_7, pC_13_8, pC_13_9, pC_13_10, pC_21_0, pC_21_1, pC_21_2, pC_21_6, pC_21_7, pC_21_8, pC_21_9, pC_21_10, pC_29_0, pC_29_1, pC_29_2, pC_145_0, pC_145_1, pC_145_2, pC_145_3, pC_145_4, pC_149_0, pC_149_1, pC_149_2, pC_164_1, pC_164_2, pC_164_3, pC_168_0, pC_168_3, pC_168_4, pC_168_5, pC_172_0, pC_175_0, pC_175_2, pC_175_3, pC_175_5, pC_180_0, pC_180_2, pC_180_3, pC_180_5, g2]
      exact inner g 1 (by omega) (by omega) ef
  simp only [s_83_0, s_83_1, s_83_3, s_83_6, s_83_7, s_83_8, s_83_10, s_83_11, s_83_14, s_83_15, s_83_18, s_83_19, s_83_20, s_83_22, s_83_27, s_83_29, s_83_31, s_83_34, s_83_35, s_83_36, s_83_37, s_83_41, s_83_43, s_83_46, s_83_47, s_83_49, s_83_50, s_83_51, s_83_54, s_83_56, s_83_58, s_83_59, s_83_62, s_83_63, s_83_65, s_83_66, s_83_70, s_83_73, s_83_74, s_83_76, s_83_77, s_83_78, s_83_81, s_83_84, s_83_85, s_83_86, s_83_88, s_83_89, s_83_90, s_83_91, s_83_94, s_83_95, s_83_96, s_83_99, s_83_100, s_83_103, s_83_104, true_and, and_true, sc0, sc1, sc2, sc3, sc4, Option.toList, List.cons_append, List.nil_append, clr, ne_eq, not_false_eq_true, not_true_eq_false, false_and, and_false, true_or, or_true, or_false, false_or, forall_const, Nat.reduceEqDiff, List.length_nil, List.length_cons, Nat.zero_le, Nat.reduceAdd, Nat.reduceLeDiff, false_implies, true_implies, Int.reduceEq, Int.reduceNe, Int.reduceLT, Int.reduceLE, Int.reduceNeg, Int.reduceToNat, Int.toNat_natCast, Nat.reduceLT, and_self, Decidable.not_not, kC_0, kC_1, kC_2, kC_3, kC_4, kC_5, kC_6, kC_7, kC_8, kC_9, kC_10, kC_11, kC_12, kC_13, kC_14, kC_15, kC_16, kC_17, kC_18, kC_19, kC_20, kC_21, kC_22, kC_23, kC_24, kC_25, kC_26, kC_27, kC_28, kC_29, kC_30, kC_31, kC_32, kC_145, kC_146, kC_147, kC_148, kC_149, kC_150, kC_151, kC_164, kC_165, kC_166, kC_167, kC_168, kC_169, kC_170, kC_171, kC_172, kC_173, kC_174, kC_175, kC_176, kC_177, kC_178, kC_179, kC_180, kC_181, kC_182, kC_183, kC_184, pC_1_0, pC_1_2, pC_1_3, pC_1_4, pC_1_5, pC_1_6, pC_1_7, pC_1_8, pC_1_9, pC_1_10, pC_1_11, pC_3_5, pC_5_0, pC_5_1, pC_5_2, pC_5_6, pC_5_7, pC_5_8, pC_5_9, pC_5_10, pC_13_0, pC_13_1, pC_13_2, pC_13_6, pC_13_7, pC_13_8, pC_13_9, pC_13_10, pC_21_0, pC_21_1, pC_21_2, pC_21_6, pC_21_7, pC_21_8, pC_21_9, pC_21_10, pC_29_0, pC_29_1, pC_29_2, pC_145_0, pC_145_1, pC_145_2, pC_145_3, pC_145_4, pC_149_0, pC_149_1, pC_149_2, pC_164_1, pC_164_2, pC_164_3, pC_168_0, pC_168_3, pC_168_4, pC_168_5, pC_172_0, pC_175_0, pC_175_2, pC_175_3, pC_175_5, pC_180_0, pC_180_2, pC_180_3, pC_180_5, hmin]
  exact main la 0 _ _ _ (by omega) (by omega) (fun w hw => hw) (fun l hl => ⟨l, hl⟩)
theorem c_digitAt {q : Nat} (hq : q < 80) (hT : ∀ j, j < 80 → M 2 j = T j ∧ 0 ≤ T j ∧ T j < 256) : Ct 1 87 [pR 1, pI (q : Int)] LC (PC b) M (some (pI (T q - 48))) (PC b) M := by
  refine Ct_r [some (pR 1), some (pI (q : Int))] (Nat.le_of_ble_eq_true rfl) rfl (fun d hd Q X hq' => ?_)
  have t := hT q hq
  have e1 : EqW (w32 (T q - 48)) (T q - 48) := EqW_i <| w32s (by omega)
  have g1 : ¬ (q : Int) < 0 := by omega
  have g2 : ¬ ((80 : Nat) : Int) ≤ (q : Int) := by omega
  have bq : (0 : Int) ≤ (q : Int) ∧ (q : Int) < ((80 : Nat) : Int) := by omega
  simp only [s_87_0, s_87_1, s_87_4, s_87_5, s_87_6, s_87_9, s_87_10, s_87_13, s_87_14, s_87_17, s_87_18, s_87_19, s_87_21, s_87_22, s_87_25, s_87_26, true_and, and_true, sc0, sc1, sc2, sc3, sc4, Option.toList, List.cons_append, List.nil_append, clr, ne_eq, not_false_eq_true, not_true_eq_false, false_and, and_false, true_or, or_true, or_false, false_or, forall_const, Nat.reduceEqDiff, List.length_nil, List.length_cons, Nat.zero_le, Nat.reduceAdd, Nat.reduceLeDiff, false_implies, true_implies, Int.reduceEq, Int.reduceNe, Int.reduceLT, Int.reduceLE, Int.reduceNeg, Int.reduceToNat, Int.toNat_natCast, Nat.reduceLT, and_self, Decidable.not_not, kC_0, kC_1, kC_2, kC_3, kC_4, kC_5, kC_6, kC_7, kC_8, kC_9, kC_10, kC_11, kC_12, kC_13, kC_14, kC_15, kC_16, kC_17, kC_18, kC_19, kC_20, kC_21, kC_22, kC_23, kC_24, kC_25, kC_26, kC_27, kC_28, kC_29, kC_30, kC_31, kC_32, kC_145, kC_146, kC_147, kC_148, kC_149, kC_150, kC_151, kC_164, kC_165, kC_166, kC_167, kC_168, kC_169, kC_170, kC_171, kC_172, kC_173, kC_174, kC_175, kC_176, kC_177, kC_178, kC_179, kC_180, kC_181, kC_182, kC_183, kC_184, pC_1_0, pC_1_2, pC_1_3, pC_1_4, pC_1_5, pC_1_6, pC_1_7, pC_1_8, pC_1_9, pC_1_10, pC_1_11, pC_3_5, pC_5_0, pC_5_1, pC_5_2, pC_5_6, pC_5_7, pC_5_8, pC_5_9, pC_5_10, pC_13_0, pC_13_1, pC_13_2, pC_13_6, pC_13_7, pC_13_8, pC_13_9, pC_13_10, pC_21_0, pC_21_1, pC_21_2, pC_21_6, pC_21_7, pC_21_8, pC_21_9, pC_21_10, pC_29_0, pC_29_1, pC_29_2, pC_145_0, pC_145_1, pC_145_2, pC_145_3, pC_145_4, pC_149_0, pC_149_1, pC_149_2, pC_164_1, pC_164_2, pC_164_3, pC_168_0, pC_168_3, pC_168_4, pC_168_5, pC_172_0, pC_175_0, pC_175_2, pC_175_3, pC_175_5, pC_180_0, pC_180_2, pC_180_3, pC_180_5, g1, g2, bq, t.1, EqW_o (EqW_o e1)]
  exact hq'
theorem c_fieldAt {q z : Nat} (hq : q + 1 < 80) (hT : ∀ j, j < 80 → M 2 j = T j ∧ 0 ≤ T j ∧ T j < 256) (hG : GrC M r c z) (h1 : 48 ≤ T q ∧ T q ≤ 57) (h2 : 48 ≤ T (q + 1) ∧ T (q + 1) ≤ 57) : Ct 2 88 [pR 1, pI (q : Int)] LC (PC b) M (some (pI (fdA T r c q))) (PC b) M := by
  refine Ct_r [some (pR 1), some (pI (q : Int))] (Nat.le_of_ble_eq_true rfl) rfl (fun d hd Q X hq' => ?_)
  have e1 := EqW_i (show w32 ((q : Int) + 1) = ((q + 1 : Nat) : Int) from w32n (by omega))
  have hfo := c_fieldOf (b := b) (M := M) (r := T q - 48) (c := T (q + 1) - 48)
  have m0 : M 3 0 = (r : Int) := hG.2.2.2.2.2.1
  have m1 : M 3 1 = (c : Int) := hG.2.2.2.2.2.2.1
  have hr6 := hG.2.2.1
  have hc6 := hG.2.2.2.2.1
  have hv : (if 0 ≤ T q - 48 ∧ T q - 48 < (r : Int) ∧ 0 ≤ T (q + 1) - 48 ∧ T (q + 1) - 48 < (c : Int) then w32 (w32 ((T q - 48) * (c : Int)) + (T (q + 1) - 48)) else -1) = fdA T r c q := by
    unfold fdA
    by_cases w : T q - 48 < (r : Int) ∧ T (q + 1) - 48 < (c : Int)
    · rw [if_pos w, if_pos ⟨by omega, w.1, by omega, w.2⟩]
      obtain ⟨x, hx⟩ : ∃ x : Nat, T q - 48 = (x : Int) := ⟨(T q - 48).toNat, by omega⟩
      rw [hx]
      have hm : x * c ≤ 6 * 6 := Nat.mul_le_mul (by omega) hc6
      rw [← Int.natCast_mul, w32s (x := ((x * c : Nat) : Int)) (by omega), w32s (by omega)]
    · rw [if_neg w, if_neg (fun q => w ⟨q.2.1, q.2.2.2⟩)]
  rw [m0, m1, hv] at hfo
  simp only [s_88_0, s_88_1, s_88_4, s_88_5, s_88_9, s_88_10, s_88_11, s_88_12, s_88_19, true_and, and_true, sc0, sc1, sc2, sc3, sc4, Option.toList, List.cons_append, List.nil_append, clr, ne_eq, not_false_eq_true, not_true_eq_false, false_and, and_false, true_or, or_true, or_false, false_or, forall_const, Nat.reduceEqDiff, List.length_nil, List.length_cons, Nat.zero_le, Nat.reduceAdd, Nat.reduceLeDiff, false_implies, true_implies, Int.reduceEq, Int.reduceNe, Int.reduceLT, Int.reduceLE, Int.reduceNeg, Int.reduceToNat, Int.toNat_natCast, Nat.reduceLT, and_self, Decidable.not_not, kC_0, kC_1, kC_2, kC_3, kC_4, kC_5, kC_6, kC_7, kC_8, kC_9, kC_10, kC_11, kC_12, kC_13, kC_14, kC_15, kC_16, kC_17, kC_18, kC_19, kC_20, kC_21, kC_22, kC_23, kC_24, kC_25, kC_26, kC_27, kC_28, kC_29, kC_30, kC_31, kC_32, kC_145, kC_146, kC_147, kC_148, kC_149, kC_150, kC_151, kC_164, kC_165, kC_166, kC_167, kC_168, kC_169, kC_170, kC_171, kC_172, kC_173, kC_174, kC_175, kC_176, kC_177, kC_178, kC_179, kC_180, kC_181, kC_182, kC_183, kC_184, pC_1_0, pC_1_2, pC_1_3, pC_1_4, pC_1_5, pC_1_6, pC_1_7, pC_1_8, pC_1_9, pC_1_10, pC_1_11, pC_3_5, pC_5_0, pC_5_1, pC_5_2, pC_5_6, pC_5_7, pC_5_8, pC_5_9, pC_5_10, pC_13_0, pC_13_1, pC_13_2, pC_13_6, pC_13_7, pC_13_8, pC_13_9, pC_13_10, pC_21_0, pC_21_1, pC_21_2, pC_21_6, pC_21_7, pC_21_8, pC_21_9, pC_21_10, pC_29_0, pC_29_1, pC_29_2, pC_145_0, pC_145_1, pC_145_2, pC_145_3, pC_145_4, pC_149_0, pC_149_1, pC_149_2, pC_164_1, pC_164_2, pC_164_3, pC_168_0, pC_168_3, pC_168_4, pC_168_5, pC_172_0, pC_175_0, pC_175_2, pC_175_3, pC_175_5, pC_180_0, pC_180_2, pC_180_3, pC_180_5]
  refine s_88_6 (Nat.le_of_ble_eq_true rfl) kC_1 (c_digitAt (by omega) hT d (by omega)) ?_
  simp only [s_88_0, s_88_1, s_88_4, s_88_5, s_88_9, s_88_10, s_88_11, s_88_12, s_88_19, true_and, and_true, sc0, sc1, sc2, sc3, sc4, Option.toList, List.cons_append, List.nil_append, clr, ne_eq, not_false_eq_true, not_true_eq_false, false_and, and_false, true_or, or_true, or_false, false_or, forall_const, Nat.reduceEqDiff, List.length_nil, List.length_cons, Nat.zero_le, Nat.reduceAdd, Nat.reduceLeDiff, false_implies, true_implies, Int.reduceEq, Int.reduceNe, Int.reduceLT, Int.reduceLE, Int.reduceNeg, Int.reduceToNat, Int.toNat_natCast, Nat.reduceLT, and_self, Decidable.not_not, kC_0, kC_1, kC_2, kC_3, kC_4, kC_5, kC_6, kC_7, kC_8, kC_9, kC_10, kC_11, kC_12, kC_13, kC_14, kC_15, kC_16, kC_17, kC_18, kC_19, kC_20, kC_21, kC_22, kC_23, kC_24, kC_25, kC_26, kC_27, kC_28, kC_29, kC_30, kC_31, kC_32, kC_145, kC_146, kC_147, kC_148, kC_149, kC_150, kC_151, kC_164, kC_165, kC_166, kC_167, kC_168, kC_169, kC_170, kC_171, kC_172, kC_173, kC_174, kC_175, kC_176, kC_177, kC_178, kC_179, kC_180, kC_181, kC_182, kC_183, kC_184, pC_1_0, pC_1_2, pC_1_3, pC_1_4, pC_1_5, pC_1_6, pC_1_7, pC_1_8, pC_1_9, pC_1_10, pC_1_11, pC_3_5, pC_5_0, pC_5_1, pC_5_2, pC_5_6, pC_5_7, pC_5_8, pC_5_9, pC_5_10, pC_13_0, pC_13_1, pC_13_2, pC_13_6, pC_13_7, pC_13_8, pC_13_9, pC_13_10, pC_21_0, pC_21_1, pC_21_2, pC_21_6, pC_21_7, pC_21_8, pC_21_9, pC_21_10, pC_29_0, pC_29_1, pC_29_2, pC_145_0, pC_145_1, pC_145_2, pC_145_3, pC_145_4, pC_149_0, pC_149_1, pC_149_2, pC_164_1, pC_164_2, pC_164_3, pC_168_0, pC_168_3, pC_168_4, pC_168_5, pC_172_0, pC_175_0, pC_175_2, pC_175_3, pC_175_5, pC_180_0, pC_180_2, pC_180_3, pC_180_5, EqW_o e1]
  refine s_88_13 (Nat.le_of_ble_eq_true rfl) kC_1 (c_digitAt hq hT d (by omega)) ?_
  simp only [s_88_0, s_88_1, s_88_4, s_88_5, s_88_9, s_88_10, s_88_11, s_88_12, s_88_19, true_and, and_true, sc0, sc1, sc2, sc3, sc4, Option.toList, List.cons_append, List.nil_append, clr, ne_eq, not_false_eq_true, not_true_eq_false, false_and, and_false, true_or, or_true, or_false, false_or, forall_const, Nat.reduceEqDiff, List.length_nil, List.length_cons, Nat.zero_le, Nat.reduceAdd, Nat.reduceLeDiff, false_implies, true_implies, Int.reduceEq, Int.reduceNe, Int.reduceLT, Int.reduceLE, Int.reduceNeg, Int.reduceToNat, Int.toNat_natCast, Nat.reduceLT, and_self, Decidable.not_not, kC_0, kC_1, kC_2, kC_3, kC_4, kC_5, kC_6, kC_7, kC_8, kC_9, kC_10, kC_11, kC_12, kC_13, kC_14, kC_15, kC_16, kC_17, kC_18, kC_19, kC_20, kC_21, kC_22, kC_23, kC_24, kC_25, kC_26, kC_27, kC_28, kC_29, kC_30, kC_31, kC_32, kC_145, kC_146, kC_147, kC_148, kC_149, kC_150, kC_151, kC_164, kC_165, kC_166, kC_167, kC_168, kC_169, kC_170, kC_171, kC_172, kC_173, kC_174, kC_175, kC_176, kC_177, kC_178, kC_179, kC_180, kC_181, kC_182, kC_183, kC_184, pC_1_0, pC_1_2, pC_1_3, pC_1_4, pC_1_5, pC_1_6, pC_1_7, pC_1_8, pC_1_9, pC_1_10, pC_1_11, pC_3_5, pC_5_0, pC_5_1, pC_5_2, pC_5_6, pC_5_7, pC_5_8, pC_5_9, pC_5_10, pC_13_0, pC_13_1, pC_13_2, pC_13_6, pC_13_7, pC_13_8, pC_13_9, pC_13_10, pC_21_0, pC_21_1, pC_21_2, pC_21_6, pC_21_7, pC_21_8, pC_21_9, pC_21_10, pC_29_0, pC_29_1, pC_29_2, pC_145_0, pC_145_1, pC_145_2, pC_145_3, pC_145_4, pC_149_0, pC_149_1, pC_149_2, pC_164_1, pC_164_2, pC_164_3, pC_168_0, pC_168_3, pC_168_4, pC_168_5, pC_172_0, pC_175_0, pC_175_2, pC_175_3, pC_175_5, pC_180_0, pC_180_2, pC_180_3, pC_180_5]
  refine s_88_16 (Nat.le_of_ble_eq_true rfl) kC_3 (hfo d (by omega)) ?_
  simp only [s_88_0, s_88_1, s_88_4, s_88_5, s_88_9, s_88_10, s_88_11, s_88_12, s_88_19, true_and, and_true, sc0, sc1, sc2, sc3, sc4, Option.toList, List.cons_append, List.nil_append, clr, ne_eq, not_false_eq_true, not_true_eq_false, false_and, and_false, true_or, or_true, or_false, false_or, forall_const, Nat.reduceEqDiff, List.length_nil, List.length_cons, Nat.zero_le, Nat.reduceAdd, Nat.reduceLeDiff, false_implies, true_implies, Int.reduceEq, Int.reduceNe, Int.reduceLT, Int.reduceLE, Int.reduceNeg, Int.reduceToNat, Int.toNat_natCast, Nat.reduceLT, and_self, Decidable.not_not, kC_0, kC_1, kC_2, kC_3, kC_4, kC_5, kC_6, kC_7, kC_8, kC_9, kC_10, kC_11, kC_12, kC_13, kC_14, kC_15, kC_16, kC_17, kC_18, kC_19, kC_20, kC_21, kC_22, kC_23, kC_24, kC_25, kC_26, kC_27, kC_28, kC_29, kC_30, kC_31, kC_32, kC_145, kC_146, kC_147, kC_148, kC_149, kC_150, kC_151, kC_164, kC_165, kC_166, kC_167, kC_168, kC_169, kC_170, kC_171, kC_172, kC_173, kC_174, kC_175, kC_176, kC_177, kC_178, kC_179, kC_180, kC_181, kC_182, kC_183, kC_184, pC_1_0, pC_1_2, pC_1_3, pC_1_4, pC_1_5, pC_1_6, pC_1_7, pC_1_8, pC_1_9, pC_1_10, pC_1_11, pC_3_5, pC_5_0, pC_5_1, pC_5_2, pC_5_6, pC_5_7, pC_5_8, pC_5_9, pC_5_10, pC_13_0, pC_13_1, pC_13_2, pC_13_6, pC_13_7, pC_13_8, pC_13_9, pC_13_10, pC_21_0, pC_21_1, pC_21_2, pC_21_6, pC_21_7, pC_21_8, pC_21_9, pC_21_10, pC_29_0, pC_29_1, pC_29_2, pC_145_0, pC_145_1, pC_145_2, pC_145_3, pC_145_4, pC_149_0, pC_149_1, pC_149_2, pC_164_1, pC_164_2, pC_164_3, pC_168_0, pC_168_3, pC_168_4, pC_168_5, pC_172_0, pC_175_0, pC_175_2, pC_175_3, pC_175_5, pC_180_0, pC_180_2, pC_180_3, pC_180_5]
  exact hq'
end
