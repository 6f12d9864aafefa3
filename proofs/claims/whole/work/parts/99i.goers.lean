/-! goers: the lines, pure; the class reads them -/
abbrev ftG (T : Nat → Int) (la m p : Nat) : Prop := p < la ∧ 48 ≤ T p ∧ T p - 48 < (m : Int)
def g1F (T : Nat → Int) (la r c p : Nat) : Int := if ¬ ftG T la r p then (p : Int) else if ¬ ftG T la c (p + 1) then ((p + 1 : Nat) : Int) else if ¬ ftG T la r (p + 2) then ((p + 2 : Nat) : Int) else if ¬ ftG T la c (p + 3) then ((p + 3 : Nat) : Int) else -1
def fdG (T : Nat → Int) (c p : Nat) : Int := (T p - 48) * (c : Int) + (T (p + 1) - 48)
def rt1 (T : Nat → Int) (la p : Nat) (x : Int) : Nat := if p < la ∧ T p = x then p + 1 else p
def rtb (T : Nat → Int) (la p : Nat) (x v : Int) : Int := if p < la ∧ T p = x then v else 0
def rtP (T : Nat → Int) (la p : Nat) : Nat := rt1 T la (rt1 T la (rt1 T la p 104) 98) 119
def rtV (T : Nat → Int) (la p : Nat) : Int := 1 + rtb T la p 104 2 + rtb T la (rt1 T la p 104) 98 4 + rtb T la (rt1 T la (rt1 T la p 104) 98) 119 8
def gsE (T : Nat → Int) (la c p : Nat) : Int × Int × Int := (fdG T c p, fdG T c (p + 2), rtV T la (p + 4))
def gsC (e : Int × Int × Int) : Nat ⊕ List (Int × Int × Int) → Nat ⊕ List (Int × Int × Int)
  | Sum.inl w => Sum.inl w
  | Sum.inr l => Sum.inr (e :: l)
def gsP (T : Nat → Int) (la ln r c : Nat) : Nat → Nat → Nat ⊕ List (Int × Int × Int)
  | 0, p => Sum.inl p
  | k + 1, p => if 0 ≤ g1F T la r c p then Sum.inl (g1F T la r c p).toNat else if la ≤ rtP T la (p + 4) then (if la < ln then Sum.inl la else Sum.inr [gsE T la c p]) else if T (rtP T la (p + 4)) = 59 then gsC (gsE T la c p) (gsP T la ln r c k (rtP T la (p + 4) + 1)) else Sum.inl (rtP T la (p + 4))
def gvE (z : Nat) (e : Int × Int × Int) : Prop := (0 ≤ e.1 ∧ e.1 < (z : Int)) ∧ (0 ≤ e.2.1 ∧ e.2.1 < (z : Int)) ∧ 0 ≤ e.2.2 ∧ e.2.2 ≤ 15
section
variable {T : Nat → Int} {la ln r c z : Nat}
theorem rt1_b {p : Nat} {x : Int} : p ≤ rt1 T la p x ∧ rt1 T la p x ≤ p + 1 ∧ (p ≤ la → rt1 T la p x ≤ la) := by unfold rt1; split <;> omega
theorem rtP_b {p : Nat} : p ≤ rtP T la p ∧ rtP T la p ≤ p + 3 ∧ (p ≤ la → rtP T la p ≤ la) := by
  unfold rtP
  have h1 := rt1_b (T := T) (la := la) (p := p) (x := 104)
  have h2 := rt1_b (T := T) (la := la) (p := rt1 T la p 104) (x := 98)
  have h3 := rt1_b (T := T) (la := la) (p := rt1 T la (rt1 T la p 104) 98) (x := 119)
  omega
theorem rtb_b {p : Nat} {x v : Int} : rtb T la p x v = 0 ∨ rtb T la p x v = v := by unfold rtb; split <;> simp
theorem rtV_b {p : Nat} : 1 ≤ rtV T la p ∧ rtV T la p ≤ 15 := by
  unfold rtV
  have h1 := rtb_b (T := T) (la := la) (p := p) (x := 104) (v := 2)
  have h2 := rtb_b (T := T) (la := la) (p := rt1 T la p 104) (x := 98) (v := 4)
  have h3 := rtb_b (T := T) (la := la) (p := rt1 T la (rt1 T la p 104) 98) (x := 119) (v := 8)
  omega
theorem g1F_no {p : Nat} (h : ¬ 0 ≤ g1F T la r c p) : ftG T la r p ∧ ftG T la c (p + 1) ∧ ftG T la r (p + 2) ∧ ftG T la c (p + 3) := by
  unfold g1F at h
  by_cases c1 : ftG T la r p
  case neg => rw [if_pos c1] at h; omega
  rw [if_neg (not_not_intro c1)] at h
  by_cases c2 : ftG T la c (p + 1)
  case neg => rw [if_pos c2] at h; omega
  rw [if_neg (not_not_intro c2)] at h
  by_cases c3 : ftG T la r (p + 2)
  case neg => rw [if_pos c3] at h; omega
  rw [if_neg (not_not_intro c3)] at h
  by_cases c4 : ftG T la c (p + 3)
  case neg => rw [if_pos c4] at h; omega
  exact ⟨c1, c2, c3, c4⟩
theorem g1F_b {p : Nat} : -1 ≤ g1F T la r c p ∧ g1F T la r c p ≤ p + 3 := by unfold g1F; repeat' split <;> omega
theorem fdG_b {p : Nat} (hz : z = r * c) (h1 : ftG T la r p) (h2 : ftG T la c (p + 1)) : 0 ≤ fdG T c p ∧ fdG T c p < (z : Int) := by
  obtain ⟨_, a1, a2⟩ := h1
  obtain ⟨_, b1, b2⟩ := h2
  unfold fdG
  obtain ⟨x, hx⟩ : ∃ x : Nat, T p - 48 = (x : Int) := ⟨(T p - 48).toNat, by omega⟩
  obtain ⟨y, hy⟩ : ∃ y : Nat, T (p + 1) - 48 = (y : Int) := ⟨(T (p + 1) - 48).toNat, by omega⟩
  rw [hx, hy]
  have hxr : x + 1 ≤ r := by omega
  have hyc : y < c := by omega
  have hm : (x + 1) * c ≤ r * c := Nat.mul_le_mul_right c hxr
  rw [Nat.add_mul, Nat.one_mul] at hm
  rw [← Int.natCast_mul, ← Int.natCast_add]
  omega
theorem gsE_v {p : Nat} (hz : z = r * c) (h : ¬ 0 ≤ g1F T la r c p) : gvE z (gsE T la c p) := by
  obtain ⟨h1, h2, h3, h4⟩ := g1F_no h
  have := rtV_b (T := T) (la := la) (p := p + 4)
  exact ⟨fdG_b hz h1 h2, fdG_b hz h3 h4, by show 0 ≤ rtV T la (p + 4); omega, this.2⟩
theorem gsP_v (hz : z = r * c) : ∀ k p, (∀ w, gsP T la ln r c k p = Sum.inl w → p ≤ la → la ≤ 47 → w ≤ 60) ∧ (∀ l, gsP T la ln r c k p = Sum.inr l → 1 ≤ l.length ∧ l.length ≤ k ∧ ∀ j, j < l.length → gvE z (l.getD j (0, 0, 0)))
  | 0, p => by
    unfold gsP
    exact ⟨fun w e h1 h2 => by cases e; omega, fun l e => (by cases e)⟩
  | k + 1, p => by
    have ih := gsP_v hz k (rtP T la (p + 4) + 1)
    have hb := g1F_b (T := T) (la := la) (r := r) (c := c) (p := p)
    have hr := rtP_b (T := T) (la := la) (p := p + 4)
    unfold gsP
    by_cases c1 : 0 ≤ g1F T la r c p
    · rw [if_pos c1]
      exact ⟨fun w e h1 h2 => by cases e; omega, fun l e => (by cases e)⟩
    rw [if_neg c1]
    have hv := gsE_v hz c1
    have hno := g1F_no c1
    by_cases c2 : la ≤ rtP T la (p + 4)
    · rw [if_pos c2]
      by_cases c3 : la < ln
      · rw [if_pos c3]
        exact ⟨fun w e h1 h2 => by cases e; omega, fun l e => (by cases e)⟩
      · rw [if_neg c3]
        refine ⟨fun w e => (by cases e), fun l e => ?_⟩
        cases e
        refine ⟨by simp, by simp, fun j hj => ?_⟩
        have : j = 0 := by simp at hj; omega
        subst this
        exact hv
    rw [if_neg c2]
    by_cases c3 : T (rtP T la (p + 4)) = 59
    case neg =>
      rw [if_neg c3]
      exact ⟨fun w e h1 h2 => by cases e; omega, fun l e => (by cases e)⟩
    rw [if_pos c3]
    cases hg : gsP T la ln r c k (rtP T la (p + 4) + 1) with
    | inl w' =>
      refine ⟨fun w e h1 h2 => ?_, fun l e => (by cases e)⟩
      have e' : (Sum.inl w' : Nat ⊕ List (Int × Int × Int)) = Sum.inl w := e
      obtain rfl := Sum.inl.inj e'
      exact ih.1 _ hg (by omega) h2
    | inr l' =>
      refine ⟨fun w e => (by cases e), fun l e => ?_⟩
      cases e
      obtain ⟨i1, i2, i3⟩ := ih.2 l' hg
      refine ⟨by simp, by simp; omega, fun j hj => ?_⟩
      cases j with
      | zero => exact hv
      | succ j => exact i3 j (by simpa using hj)
end
section
variable {M : MM} {b : Bool} {T : Nat → Int} {la ln r c z : Nat}
theorem c_placeFits {x j m : Int} (hx : 0 ≤ x ∧ x < 256) (hj : (bAnd j 1 = 0 ∧ M 3 0 = m) ∨ (¬ bAnd j 1 = 0 ∧ M 3 1 = m)) : Ct 1 34 [pI x, pI j, pR 3] LC (PC b) M (some (pI (if 48 ≤ x ∧ x - 48 < m then 1 else 0))) (PC b) M := by
  refine Ct_r [some (pI x), some (pI j), some (pR 3), none] (Nat.le_of_ble_eq_true rfl) rfl (fun d hd Q X hq => ?_)
  have e1 : EqW (w32 (x - 48)) (x - 48) := EqW_i <| w32s (by omega)
  have fin : wpB (Ev d) 34 Q X 18 [some (pI x), some (pI j), some (pR 3), some (pI m)] [] (kz LC) (PC b) M := by
    by_cases c1 : x < 48
    · rw [if_neg (by omega)] at hq
      simp only [s_34_0, s_34_1, s_34_2, s_34_3, s_34_6, s_34_7, s_34_10, s_34_13, s_34_14, s_34_17, s_34_18, s_34_19, s_34_21, s_34_24, s_34_25, s_34_27, s_34_28, s_34_29, s_34_32, s_34_33, s_34_36, s_34_37, true_and, and_true, sc0, sc1, sc2, sc3, sc4, Option.toList, List.cons_append, List.nil_append, clr, ne_eq, not_false_eq_true, not_true_eq_false, false_and, and_false, true_or, or_true, or_false, false_or, forall_const, Nat.reduceEqDiff, List.length_nil, List.length_cons, Nat.zero_le, Nat.reduceAdd, Nat.reduceLeDiff, false_implies, true_implies, Int.reduceEq, Int.reduceNe, Int.reduceLT, Int.reduceLE, Int.reduceNeg, Int.reduceToNat, Int.toNat_natCast, Nat.reduceLT, and_self, Decidable.not_not, kC_0, kC_1, kC_2, kC_3, kC_4, kC_5, kC_6, kC_7, kC_8, kC_9, kC_10, kC_11, kC_12, kC_13, kC_14, kC_15, kC_16, kC_17, kC_18, kC_19, kC_20, kC_21, kC_22, kC_23, kC_24, kC_25, kC_26, kC_27, kC_28, kC_29, kC_30, kC_31, kC_32, kC_145, kC_146, kC_147, kC_148, kC_149, kC_150, kC_151, kC_164, kC_165, kC_166, kC_167, kC_168, kC_169, kC_170, kC_171, kC_172, kC_173, kC_174, kC_175, kC_176, kC_177, kC_178, kC_179, kC_180, kC_181, kC_182, kC_183, kC_184, pC_1_0, pC_1_2, pC_1_3, pC_1_4, pC_1_5, pC_1_6, pC_1_7, pC_1_8, pC_1_9, pC_1_10, pC_1_11, pC_3_5, pC_5_0, pC_5_1, pC_5_2, pC_5_6, pC_5_7, pC_5_8, pC_5_9, pC_5_10, pC_13_0, pC_13_1, pC_13_2, pC_13_6, pC_13_7, pC_13_8, pC_13_9, pC_13_10, pC_21_0, pC_21_1, pC_21_2, pC_21_6, pC_21_7, pC_21_8, pC_21_9, pC_21_10, pC_29_0, pC_29_1, pC_29_2, pC_145_0, pC_145_1, pC_145_2, pC_145_3, pC_145_4, pC_149_0, pC_149_1, pC_149_2, pC_164_1, pC_164_2, pC_164_3, pC_168_0, pC_168_3, pC_168_4, pC_168_5, pC_172_0, pC_175_0, pC_175_2, pC_175_3, pC_175_5, pC_180_0, pC_180_2, pC_180_3, pC_180_5, c1]
      exact hq
    by_cases c2 : m ≤ x - 48
    · rw [if_neg (by omega)] at hq
      simp only [s_34_0, s_34_1, s_34_2, s_34_3, s_34_6, s_34_7, s_34_10, s_34_13, s_34_14, s_34_17, s_34_18, s_34_19, s_34_21, s_34_24, s_34_25, s_34_27, s_34_28, s_34_29, s_34_32, s_34_33, s_34_36, s_34_37, true_and, and_true, sc0, sc1, sc2, sc3, sc4, Option.toList, List.cons_append, List.nil_append, clr, ne_eq, not_false_eq_true, not_true_eq_false, false_and, and_false, true_or, or_true, or_false, false_or, forall_const, Nat.reduceEqDiff, List.length_nil, List.length_cons, Nat.zero_le, Nat.reduceAdd, Nat.reduceLeDiff, false_implies, true_implies, Int.reduceEq, Int.reduceNe, Int.reduceLT, Int.reduceLE, Int.reduceNeg, Int.reduceToNat, Int.toNat_natCast, Nat.reduceLT, and_self, Decidable.not_not, kC_0, kC_1, kC_2, kC_3, kC_4, kC_5, kC_6, kC_7, kC_8, kC_9, kC_10, kC_11, kC_12, kC_13, kC_14, kC_15, kC_16, kC_17, kC_18, kC_19, kC_20, kC_21, kC_22, kC_23, kC_24, kC_25, kC_26, kC_27, kC_28, kC_29, kC_30, kC_31, kC_32, kC_145, kC_146, kC_147, kC_148, kC_149, kC_150, kC_151, kC_164, kC_165, kC_166, kC_167, kC_168, kC_169, kC_170, kC_171, kC_172, kC_173, kC_174, kC_175, kC_176, kC_177, kC_178, kC_179, kC_180, kC_181, kC_182, kC_183, kC_184, pC_1_0, pC_1_2, pC_1_3, pC_1_4, pC_1_5, pC_1_6, pC_1_7, pC_1_8, pC_1_9, pC_1_10, pC_1_11, pC_3_5, pC_5_0, pC_5_1, pC_5_2, pC_5_6, pC_5_7, pC_5_8, pC_5_9, pC_5_10, pC_13_0, pC_13_1, pC_13_2, pC_13_6, pC_13_7, pC_13_8, pC_13_9, pC_13_10, pC_21_0, pC_21_1, pC_21_2, pC_21_6, pC_21_7, pC_21_8, pC_21_9, pC_21_10, pC_29_0, pC_29_1, pC_29_2, pC_145_0, pC_145_1, pC_145_2, pC_145_3, pC_145_4, pC_149_0, pC_149_1, pC_149_2, pC_164_1, pC_164_2, pC_164_3, pC_168_0, pC_168_3, pC_168_4, pC_168_5, pC_172_0, pC_175_0, pC_175_2, pC_175_3, pC_175_5, pC_180_0, pC_180_2, pC_180_3, pC_180_5, c1, EqW_o (EqW_o e1), c2]
      exact hq
    · rw [if_pos (by omega)] at hq
      simp only [s_34_0, s_34_1, s_34_2, s_34_3, s_34_6, s_34_7, s_34_10, s_34_13, s_34_14, s_34_17, s_34_18, s_34_19, s_34_21, s_34_24, s_34_25, s_34_27, s_34_28, s_34_29, s_34_32, s_34_33, s_34_36, s_34_37, true_and, and_true, sc0, sc1, sc2, sc3, sc4, Option.toList, List.cons_append, List.nil_append, clr, ne_eq, not_false_eq_true, not_true_eq_false, false_and, and_false, true_or, or_true, or_false, false_or, forall_const, Nat.reduceEqDiff, List.length_nil, List.length_cons, Nat.zero_le, Nat.reduceAdd, Nat.reduceLeDiff, false_implies, true_implies, Int.reduceEq, Int.reduceNe, Int.reduceLT, Int.reduceLE, Int.reduceNeg, Int.reduceToNat, Int.toNat_natCast, Nat.reduceLT, and_self, Decidable.not_not, kC_0, kC_1, kC_2, kC_3, kC_4, kC_5, kC_6, kC_7, kC_8, kC_9, kC_10, kC_11, kC_12, kC_13, kC_14, kC_15, kC_16, kC_17, kC_18, kC_19, kC_20, kC_21, kC_22, kC_23, kC_24, kC_25, kC_26, kC_27, kC_28, kC_29, kC_30, kC_31, kC_32, kC_145, kC_146, kC_147, kC_148, kC_149, kC_150, kC_151, kC_164, kC_165, kC_166, kC_167, kC_168, kC_169, kC_170, kC_171, kC_172, kC_173, kC_174, kC_175, kC_176, kC_177, kC_178, kC_179, kC_180, kC_181, kC_182, kC_183, kC_184, pC_1_0, pC_1_2, pC_1_3, pC_1_4, pC_1_5, pC_1_6, pC_1_7, pC_1_8, pC_1_9, pC_1_10, pC_1_11, pC_3_5, pC_5_0, pC_5_1, pC_5_2, pC_5_6, pC_5_7, pC_5_8, pC_5_9, pC_5_10, pC_13_0, pC_13_1, pC_13_2, pC_13_6, pC_13_7, pC_13_8, pC_13_9, pC_13_10, pC_21_0, pC_21_1, pC_21_2, pC_21_6, pC_21_7, pC_21_8, pC_21_9, pC_21_10, pC_29_0, pC_29_1, pC_29_2, pC_145_0, pC_145_1, pC_145_2, pC_145_3, pC_145_4, pC_149_0, pC_149_1, pC_149_2, pC_164_1, pC_164_2, pC_164_3, pC_168_0, pC_168_3, pC_168_4, pC_168_5, pC_172_0, pC_175_0, pC_175_2, pC_175_3, pC_175_5, pC_180_0, pC_180_2, pC_180_3, pC_180_5, c1, EqW_o (EqW_o e1), c2]
      exact hq
  rcases hj with ⟨h1, h2⟩ | ⟨h1, h2⟩
  · have g1 := EqW_i h1
    simp only [s_34_0, s_34_1, s_34_2, s_34_3, s_34_6, s_34_7, s_34_10, s_34_13, s_34_14, s_34_17, s_34_19, s_34_21, s_34_24, s_34_25, s_34_27, s_34_28, s_34_29, s_34_32, s_34_33, s_34_36, s_34_37, true_and, and_true, sc0, sc1, sc2, sc3, sc4, Option.toList, List.cons_append, List.nil_append, clr, ne_eq, not_false_eq_true, not_true_eq_false, false_and, and_false, true_or, or_true, or_false, false_or, forall_const, Nat.reduceEqDiff, List.length_nil, List.length_cons, Nat.zero_le, Nat.reduceAdd, Nat.reduceLeDiff, false_implies, true_implies, Int.reduceEq, Int.reduceNe, Int.reduceLT, Int.reduceLE, Int.reduceNeg, Int.reduceToNat, Int.toNat_natCast, Nat.reduceLT, and_self, Decidable.not_not, kC_0, kC_1, kC_2, kC_3, kC_4, kC_5, kC_6, kC_7, kC_8, kC_9, kC_10, kC_11, kC_12, kC_13, kC_14, kC_15, kC_16, kC_17, kC_18, kC_19, kC_20, kC_21, kC_22, kC_23, kC_24, kC_25, kC_26, kC_27, kC_28, kC_29, kC_30, kC_31, kC_32, kC_145, kC_146, kC_147, kC_148, kC_149, kC_150, kC_151, kC_164, kC_165, kC_166, kC_167, kC_168, kC_169, kC_170, kC_171, kC_172, kC_173, kC_174, kC_175, kC_176, kC_177, kC_178, kC_179, kC_180, kC_181, kC_182, kC_183, kC_184, pC_1_0, pC_1_2, pC_1_3, pC_1_4, pC_1_5, pC_1_6, pC_1_7, pC_1_8, pC_1_9, pC_1_10, pC_1_11, pC_3_5, pC_5_0, pC_5_1, pC_5_2, pC_5_6, pC_5_7, pC_5_8, pC_5_9, pC_5_10, pC_13_0, pC_13_1, pC_13_2, pC_13_6, pC_13_7, pC_13_8, pC_13_9, pC_13_10, pC_21_0, pC_21_1, pC_21_2, pC_21_6, pC_21_7, pC_21_8, pC_21_9, pC_21_10, pC_29_0, pC_29_1, pC_29_2, pC_145_0, pC_145_1, pC_145_2, pC_145_3, pC_145_4, pC_149_0, pC_149_1, pC_149_2, pC_164_1, pC_164_2, pC_164_3, pC_168_0, pC_168_3, pC_168_4, pC_168_5, pC_172_0, pC_175_0, pC_175_2, pC_175_3, pC_175_5, pC_180_0, pC_180_2, pC_180_3, pC_180_5, EqW_o g1, h2]
    exact fin
  · simp only [s_34_0, s_34_1, s_34_2, s_34_3, s_34_6, s_34_7, s_34_10, s_34_13, s_34_14, s_34_17, s_34_19, s_34_21, s_34_24, s_34_25, s_34_27, s_34_28, s_34_29, s_34_32, s_34_33, s_34_36, s_34_37, true_and, and_true, sc0, sc1, sc2, sc3, sc4, Option.toList, List.cons_append, List.nil_append, clr, ne_eq, not_false_eq_true, not_true_eq_false, false_and, and_false, true_or, or_true, or_false, false_or, forall_const, Nat.reduceEqDiff, List.length_nil, List.length_cons, Nat.zero_le, Nat.reduceAdd, Nat.reduceLeDiff, false_implies, true_implies, Int.reduceEq, Int.reduceNe, Int.reduceLT, Int.reduceLE, Int.reduceNeg, Int.reduceToNat, Int.toNat_natCast, Nat.reduceLT, and_self, Decidable.not_not, kC_0, kC_1, kC_2, kC_3, kC_4, kC_5, kC_6, kC_7, kC_8, kC_9, kC_10, kC_11, kC_12, kC_13, kC_14, kC_15, kC_16, kC_17, kC_18, kC_19, kC_20, kC_21, kC_22, kC_23, kC_24, kC_25, kC_26, kC_27, kC_28, kC_29, kC_30, kC_31, kC_32, kC_145, kC_146, kC_147, kC_148, kC_149, kC_150, kC_151, kC_164, kC_165, kC_166, kC_167, kC_168, kC_169, kC_170, kC_171, kC_172, kC_173, kC_174, kC_175, kC_176, kC_177, kC_178, kC_179, kC_180, kC_181, kC_182, kC_183, kC_184, pC_1_0, pC_1_2, pC_1_3, pC_1_4, pC_1_5, pC_1_6, pC_1_7, pC_1_8, pC_1_9, pC_1_10, pC_1_11, pC_3_5, pC_5_0, pC_5_1, pC_5_2, pC_5_6, pC_5_7, pC_5_8, pC_5_9, pC_5_10, pC_13_0, pC_13_1, pC_13_2, pC_13_6, pC_13_7, pC_13_8, pC_13_9, pC_13_10, pC_21_0, pC_21_1, pC_21_2, pC_21_6, pC_21_7, pC_21_8, pC_21_9, pC_21_10, pC_29_0, pC_29_1, pC_29_2, pC_145_0, pC_145_1, pC_145_2, pC_145_3, pC_145_4, pC_149_0, pC_149_1, pC_149_2, pC_164_1, pC_164_2, pC_164_3, pC_168_0, pC_168_3, pC_168_4, pC_168_5, pC_172_0, pC_175_0, pC_175_2, pC_175_3, pC_175_5, pC_180_0, pC_180_2, pC_180_3, pC_180_5, h1, h2]
    exact fin
theorem c_fieldG {x y : Nat} (h0 : M 3 0 = (r : Int)) (h1 : M 3 1 = (c : Int)) (hr : r ≤ 6) (hc : c ≤ 6) (hx : x < r) (hy : y < c) : Ct 1 35 [pR 3, pI (x : Int), pI (y : Int)] LC (PC b) M (some (pI ((x : Int) * (c : Int) + (y : Int)))) (PC b) M := by
  refine Ct_r [some (pR 3), some (pI (x : Int)), some (pI (y : Int))] (Nat.le_of_ble_eq_true rfl) rfl (fun d hd Q X hq => ?_)
  have hm : x * c ≤ 6 * 6 := Nat.mul_le_mul (by omega) hc
  have e1 : EqW (w32 ((x : Int) * (c : Int))) ((x : Int) * (c : Int)) := EqW_i <| by rw [← Int.natCast_mul]; exact w32s (by omega)
  have e2 : EqW (w32 ((x : Int) * (c : Int) + (y : Int))) ((x : Int) * (c : Int) + (y : Int)) := EqW_i <| by rw [← Int.natCast_mul]; exact w32s (by omega)
  have g1 : ¬ (x : Int) < 0 := by omega
  have g2 : ¬ (r : Int) ≤ (x : Int) := by omega
  have g3 : ¬ (y : Int) < 0 := by omega
  have g4 : (y : Int) < (c : Int) := by omega
  simp only [s_35_0, s_35_1, s_35_4, s_35_5, s_35_6, s_35_9, s_35_12, s_35_13, s_35_16, s_35_17, s_35_18, s_35_21, s_35_24, s_35_25, s_35_26, s_35_27, s_35_28, s_35_31, s_35_32, s_35_33, s_35_34, true_and, and_true, sc0, sc1, sc2, sc3, sc4, Option.toList, List.cons_append, List.nil_append, clr, ne_eq, not_false_eq_true, not_true_eq_false, false_and, and_false, true_or, or_true, or_false, false_or, forall_const, Nat.reduceEqDiff, List.length_nil, List.length_cons, Nat.zero_le, Nat.reduceAdd, Nat.reduceLeDiff, false_implies, true_implies, Int.reduceEq, Int.reduceNe, Int.reduceLT, Int.reduceLE, Int.reduceNeg, Int.reduceToNat, Int.toNat_natCast, Nat.reduceLT, and_self, Decidable.not_not, kC_0, kC_1, kC_2, kC_3, kC_4, kC_5, kC_6, kC_7, kC_8, kC_9, kC_10, kC_11, kC_12, kC_13, kC_14, kC_15, kC_16, kC_17, kC_18, kC_19, kC_20, kC_21, kC_22, kC_23, kC_24, kC_25, kC_26, kC_27, kC_28, kC_29, kC_30, kC_31, kC_32, kC_145, kC_146, kC_147, kC_148, kC_149, kC_150, kC_151, kC_164, kC_165, kC_166, kC_167, kC_168, kC_169, kC_170, kC_171, kC_172, kC_173, kC_174, kC_175, kC_176, kC_177, kC_178, kC_179, kC_180, kC_181, kC_182, kC_183, kC_184, pC_1_0, pC_1_2, pC_1_3, pC_1_4, pC_1_5, pC_1_6, pC_1_7, pC_1_8, pC_1_9, pC_1_10, pC_1_11, pC_3_5, pC_5_0, pC_5_1, pC_5_2, pC_5_6, pC_5_7, pC_5_8, pC_5_9, pC_5_10, pC_13_0, pC_13_1, pC_13_2, pC_13_6, pC_13_7, pC_13_8, pC_13_9, pC_13_10, pC_21_0, pC_21_1, pC_21_2, pC_21_6, pC_21_7, pC_21_8, pC_21_9, pC_21_10, pC_29_0, pC_29_1, pC_29_2, pC_145_0, pC_145_1, pC_145_2, pC_145_3, pC_145_4, pC_149_0, pC_149_1, pC_149_2, pC_164_1, pC_164_2, pC_164_3, pC_168_0, pC_168_3, pC_168_4, pC_168_5, pC_172_0, pC_175_0, pC_175_2, pC_175_3, pC_175_5, pC_180_0, pC_180_2, pC_180_3, pC_180_5, h0, h1, g1, g2, g3, g4, EqW_o (EqW_o e1), EqW_o (EqW_o e2)]
  exact hq
theorem kF_1 {x : Int} : (kF x = 1 ↔ x = 104) ∧ (kF x = 2 ↔ x = 98) ∧ (kF x = 3 ↔ x = 119) := by
  unfold kF
  refine ⟨?_, ?_, ?_⟩ <;> (repeat' split) <;> constructor <;> intro h <;> omega
theorem or_v1 : ∀ v : Nat, v < 2 → 1 ≤ v → bOr (v : Int) (bShl 1 1) = (v : Int) + 2 := by decide +kernel
theorem or_v2 : ∀ v : Nat, v < 4 → 1 ≤ v → bOr (v : Int) (bShl 1 2) = (v : Int) + 4 := by decide +kernel
theorem or_v3 : ∀ v : Nat, v < 8 → 1 ≤ v → bOr (v : Int) (bShl 1 3) = (v : Int) + 8 := by decide +kernel
theorem c_readRights {s i : Nat} (hi : i < 6) (hla : la ≤ 47) (hs : s ≤ 60) (hT : ∀ j, j < 80 → M 2 j = T j) : Cw 3 36 [pR 164, pR 2, pI (s : Int), pI (la : Int), pI (i : Int)] LC (PC b) M (fun x P' M' => P' = PC b ∧ x = some (pI (rtP T la s : Int)) ∧ M' 167 i = rtV T la s ∧ (∀ j, j ≠ i → M' 167 j = M 167 j) ∧ ∀ p, p ≠ 167 → M' p = M p) := by
  refine Cw_k [some (pR 164), some (pR 2), some (pI (s : Int)), some (pI (la : Int)), some (pI (i : Int)), none, none] (Nat.le_of_ble_eq_true rfl) rfl (fun d hd Q X hQ => ?_)
  have b0 : (0 : Int) ≤ (i : Int) ∧ (i : Int) < ((6 : Nat) : Int) := by omega
  have st : ∀ (k : Nat) (ch : Int), 1 ≤ k → k ≤ 3 → (∀ y, kF y = (k : Int) ↔ y = ch) → ∀ (K : MM) (p : Nat) (acc : Int), p ≤ 70 → K 167 i = acc → (∀ j, j < 80 → K 2 j = T j) → (p < la ∧ T p = ch → wpB (Ev d) 36 Q X 14 [some (pR 164), some (pR 2), some (pI (s : Int)), some (pI (la : Int)), some (pI (i : Int)), some (pI ((p + 1 : Nat) : Int)), some (pI ((k + 1 : Nat) : Int))] [] (kz LC) (PC b) (uM K 167 i (bOr acc (bShl 1 (k : Int))))) → (¬ (p < la ∧ T p = ch) → wpB (Ev d) 36 Q X 14 [some (pR 164), some (pR 2), some (pI (s : Int)), some (pI (la : Int)), some (pI (i : Int)), some (pI (p : Int)), some (pI ((k + 1 : Nat) : Int))] [] (kz LC) (PC b) K) → wpB (Ev d) 36 Q X 14 [some (pR 164), some (pR 2), some (pI (s : Int)), some (pI (la : Int)), some (pI (i : Int)), some (pI (p : Int)), some (pI (k : Int))] [] (kz LC) (PC b) K := by
    intro k ch k1 k3 hk K p acc hp hacc hTK hy hn
    have g0 : ¬ (3 : Int) < (k : Int) := by omega
    have g0' : (k : Int) ≤ 3 := by omega
    have ek := EqW_i (w32n (show k < 1000000 by omega))
    have ep := EqW_i (w32n (show p < 1000000 by omega))
    rw [s_36_14]
    by_cases c1 : la ≤ p
    · have g1 : (la : Int) ≤ (p : Int) := by omega
      have := hn (fun w => by omega)
      simp only [s_36_0, s_36_1, s_36_4, s_36_6, s_36_7, s_36_8, s_36_9, s_36_11, s_36_12, s_36_16, s_36_17, s_36_20, s_36_22, s_36_23, s_36_26, s_36_27, s_36_29, s_36_33, s_36_35, s_36_38, s_36_39, s_36_42, s_36_44, s_36_45, s_36_46, s_36_47, s_36_49, s_36_50, s_36_51, s_36_52, s_36_55, s_36_58, s_36_61, s_36_63, true_and, and_true, sc0, sc1, sc2, sc3, sc4, Option.toList, List.cons_append, List.nil_append, clr, ne_eq, not_false_eq_true, not_true_eq_false, false_and, and_false, true_or, or_true, or_false, false_or, forall_const, Nat.reduceEqDiff, List.length_nil, List.length_cons, Nat.zero_le, Nat.reduceAdd, Nat.reduceLeDiff, false_implies, true_implies, Int.reduceEq, Int.reduceNe, Int.reduceLT, Int.reduceLE, Int.reduceNeg, Int.reduceToNat, Int.toNat_natCast, Nat.reduceLT, and_self, Decidable.not_not, kC_0, kC_1, kC_2, kC_3, kC_4, kC_5, kC_6, kC_7, kC_8, kC_9, kC_10, kC_11, kC_12, kC_13, kC_14, kC_15, kC_16, kC_17, kC_18, kC_19, kC_20, kC_21, kC_22, kC_23, kC_24, kC_25, kC_26, kC_27, kC_28, kC_29, kC_30, kC_31, kC_32, kC_145, kC_146, kC_147, kC_148, kC_149, kC_150, kC_151, kC_164, kC_165, kC_166, kC_167, kC_168, kC_169, kC_170, kC_171, kC_172, kC_173, kC_174, kC_175, kC_176, kC_177, kC_178, kC_179, kC_180, kC_181, kC_182, kC_183, kC_184, pC_1_0, pC_1_2, pC_1_3, pC_1_4, pC_1_5, pC_1_6, pC_1_7, pC_1_8, pC_1_9, pC_1_10, pC_1_11, pC_3_5, pC_5_0, pC_5_1, pC_5_2, pC_5_6, pC_5_7, pC_5_8, pC_5_9, pC_5_10, pC_13_0, pC_13_1, pC_13_2, pC_13_6, pC_13_7, pC_13_8, pC_13_9, pC_13_10, pC_21_0, pC_21_1, pC_21_2, pC_21_6, pC_21_7, pC_21_8, pC_21_9, pC_21_10, pC_29_0, pC_29_1, pC_29_2, pC_145_0, pC_145_1, pC_145_2, pC_145_3, pC_145_4, pC_149_0, pC_149_1, pC_149_2, pC_164_1, pC_164_2, pC_164_3, pC_168_0, pC_168_3, pC_168_4, pC_168_5, pC_172_0, pC_175_0, pC_175_2, pC_175_3, pC_175_5, pC_180_0, pC_180_2, pC_180_3, pC_180_5, g0, g0', g1, EqW_o ek]
      exact this
    have g1 : ¬ (la : Int) ≤ (p : Int) := by omega
    have b1 : (0 : Int) ≤ (p : Int) ∧ (p : Int) < ((80 : Nat) : Int) := by omega
    have tp := hTK p (by omega)
    simp only [s_36_0, s_36_1, s_36_4, s_36_6, s_36_7, s_36_8, s_36_9, s_36_11, s_36_12, s_36_16, s_36_17, s_36_20, s_36_22, s_36_23, s_36_26, s_36_27, s_36_29, s_36_33, s_36_35, s_36_38, s_36_39, s_36_42, s_36_44, s_36_45, s_36_46, s_36_47, s_36_49, s_36_50, s_36_51, s_36_52, s_36_55, s_36_58, s_36_61, s_36_63, true_and, and_true, sc0, sc1, sc2, sc3, sc4, Option.toList, List.cons_append, List.nil_append, clr, ne_eq, not_false_eq_true, not_true_eq_false, false_and, and_false, true_or, or_true, or_false, false_or, forall_const, Nat.reduceEqDiff, List.length_nil, List.length_cons, Nat.zero_le, Nat.reduceAdd, Nat.reduceLeDiff, false_implies, true_implies, Int.reduceEq, Int.reduceNe, Int.reduceLT, Int.reduceLE, Int.reduceNeg, Int.reduceToNat, Int.toNat_natCast, Nat.reduceLT, and_self, Decidable.not_not, kC_0, kC_1, kC_2, kC_3, kC_4, kC_5, kC_6, kC_7, kC_8, kC_9, kC_10, kC_11, kC_12, kC_13, kC_14, kC_15, kC_16, kC_17, kC_18, kC_19, kC_20, kC_21, kC_22, kC_23, kC_24, kC_25, kC_26, kC_27, kC_28, kC_29, kC_30, kC_31, kC_32, kC_145, kC_146, kC_147, kC_148, kC_149, kC_150, kC_151, kC_164, kC_165, kC_166, kC_167, kC_168, kC_169, kC_170, kC_171, kC_172, kC_173, kC_174, kC_175, kC_176, kC_177, kC_178, kC_179, kC_180, kC_181, kC_182, kC_183, kC_184, pC_1_0, pC_1_2, pC_1_3, pC_1_4, pC_1_5, pC_1_6, pC_1_7, pC_1_8, pC_1_9, pC_1_10, pC_1_11, pC_3_5, pC_5_0, pC_5_1, pC_5_2, pC_5_6, pC_5_7, pC_5_8, pC_5_9, pC_5_10, pC_13_0, pC_13_1, pC_13_2, pC_13_6, pC_13_7, pC_13_8, pC_13_9, pC_13_10, pC_21_0, pC_21_1, pC_21_2, pC_21_6, pC_21_7, pC_21_8, pC_21_9, pC_21_10, pC_29_0, pC_29_1, pC_29_2, pC_145_0, pC_145_1, pC_145_2, pC_145_3, pC_145_4, pC_149_0, pC_149_1, pC_149_2, pC_164_1, pC_164_2, pC_164_3, pC_168_0, pC_168_3, pC_168_4, pC_168_5, pC_172_0, pC_175_0, pC_175_2, pC_175_3, pC_175_5, pC_180_0, pC_180_2, pC_180_3, pC_180_5, g0, g0', g1, b1, tp]
    refine s_36_30 (Nat.le_of_ble_eq_true rfl) (c_kindOf d (by omega)) ?_
    by_cases c2 : T p = ch
    · have g2 : kF (T p) = (k : Int) := (hk _).mpr c2
      have := hy ⟨by omega, c2⟩
      simp only [s_36_0, s_36_1, s_36_4, s_36_6, s_36_7, s_36_8, s_36_9, s_36_11, s_36_12, s_36_16, s_36_17, s_36_20, s_36_22, s_36_23, s_36_26, s_36_27, s_36_29, s_36_33, s_36_35, s_36_38, s_36_39, s_36_42, s_36_44, s_36_45, s_36_46, s_36_47, s_36_49, s_36_50, s_36_51, s_36_52, s_36_55, s_36_58, s_36_61, s_36_63, true_and, and_true, sc0, sc1, sc2, sc3, sc4, Option.toList, List.cons_append, List.nil_append, clr, ne_eq, not_false_eq_true, not_true_eq_false, false_and, and_false, true_or, or_true, or_false, false_or, forall_const, Nat.reduceEqDiff, List.length_nil, List.length_cons, Nat.zero_le, Nat.reduceAdd, Nat.reduceLeDiff, false_implies, true_implies, Int.reduceEq, Int.reduceNe, Int.reduceLT, Int.reduceLE, Int.reduceNeg, Int.reduceToNat, Int.toNat_natCast, Nat.reduceLT, and_self, Decidable.not_not, kC_0, kC_1, kC_2, kC_3, kC_4, kC_5, kC_6, kC_7, kC_8, kC_9, kC_10, kC_11, kC_12, kC_13, kC_14, kC_15, kC_16, kC_17, kC_18, kC_19, kC_20, kC_21, kC_22, kC_23, kC_24, kC_25, kC_26, kC_27, kC_28, kC_29, kC_30, kC_31, kC_32, kC_145, kC_146, kC_147, kC_148, kC_149, kC_150, kC_151, kC_164, kC_165, kC_166, kC_167, kC_168, kC_169, kC_170, kC_171, kC_172, kC_173, kC_174, kC_175, kC_176, kC_177, kC_178, kC_179, kC_180, kC_181, kC_182, kC_183, kC_184, pC_1_0, pC_1_2, pC_1_3, pC_1_4, pC_1_5, pC_1_6, pC_1_7, pC_1_8, pC_1_9, pC_1_10, pC_1_11, pC_3_5, pC_5_0, pC_5_1, pC_5_2, pC_5_6, pC_5_7, pC_5_8, pC_5_9, pC_5_10, pC_13_0, pC_13_1, pC_13_2, pC_13_6, pC_13_7, pC_13_8, pC_13_9, pC_13_10, pC_21_0, pC_21_1, pC_21_2, pC_21_6, pC_21_7, pC_21_8, pC_21_9, pC_21_10, pC_29_0, pC_29_1, pC_29_2, pC_145_0, pC_145_1, pC_145_2, pC_145_3, pC_145_4, pC_149_0, pC_149_1, pC_149_2, pC_164_1, pC_164_2, pC_164_3, pC_168_0, pC_168_3, pC_168_4, pC_168_5, pC_172_0, pC_175_0, pC_175_2, pC_175_3, pC_175_5, pC_180_0, pC_180_2, pC_180_3, pC_180_5, g2, b0, hacc, EqW_o ek, EqW_o ep]
      exact this
    · have g2 : ¬ kF (T p) = (k : Int) := fun w => c2 ((hk _).mp w)
      have := hn (fun w => c2 w.2)
      simp only [s_36_0, s_36_1, s_36_4, s_36_6, s_36_7, s_36_8, s_36_9, s_36_11, s_36_12, s_36_16, s_36_17, s_36_20, s_36_22, s_36_23, s_36_26, s_36_27, s_36_29, s_36_33, s_36_35, s_36_38, s_36_39, s_36_42, s_36_44, s_36_45, s_36_46, s_36_47, s_36_49, s_36_50, s_36_51, s_36_52, s_36_55, s_36_58, s_36_61, s_36_63, true_and, and_true, sc0, sc1, sc2, sc3, sc4, Option.toList, List.cons_append, List.nil_append, clr, ne_eq, not_false_eq_true, not_true_eq_false, false_and, and_false, true_or, or_true, or_false, false_or, forall_const, Nat.reduceEqDiff, List.length_nil, List.length_cons, Nat.zero_le, Nat.reduceAdd, Nat.reduceLeDiff, false_implies, true_implies, Int.reduceEq, Int.reduceNe, Int.reduceLT, Int.reduceLE, Int.reduceNeg, Int.reduceToNat, Int.toNat_natCast, Nat.reduceLT, and_self, Decidable.not_not, kC_0, kC_1, kC_2, kC_3, kC_4, kC_5, kC_6, kC_7, kC_8, kC_9, kC_10, kC_11, kC_12, kC_13, kC_14, kC_15, kC_16, kC_17, kC_18, kC_19, kC_20, kC_21, kC_22, kC_23, kC_24, kC_25, kC_26, kC_27, kC_28, kC_29, kC_30, kC_31, kC_32, kC_145, kC_146, kC_147, kC_148, kC_149, kC_150, kC_151, kC_164, kC_165, kC_166, kC_167, kC_168, kC_169, kC_170, kC_171, kC_172, kC_173, kC_174, kC_175, kC_176, kC_177, kC_178, kC_179, kC_180, kC_181, kC_182, kC_183, kC_184, pC_1_0, pC_1_2, pC_1_3, pC_1_4, pC_1_5, pC_1_6, pC_1_7, pC_1_8, pC_1_9, pC_1_10, pC_1_11, pC_3_5, pC_5_0, pC_5_1, pC_5_2, pC_5_6, pC_5_7, pC_5_8, pC_5_9, pC_5_10, pC_13_0, pC_13_1, pC_13_2, pC_13_6, pC_13_7, pC_13_8, pC_13_9, pC_13_10, pC_21_0, pC_21_1, pC_21_2, pC_21_6, pC_21_7, pC_21_8, pC_21_9, pC_21_10, pC_29_0, pC_29_1, pC_29_2, pC_145_0, pC_145_1, pC_145_2, pC_145_3, pC_145_4, pC_149_0, pC_149_1, pC_149_2, pC_164_1, pC_164_2, pC_164_3, pC_168_0, pC_168_3, pC_168_4, pC_168_5, pC_172_0, pC_175_0, pC_175_2, pC_175_3, pC_175_5, pC_180_0, pC_180_2, pC_180_3, pC_180_5, g2, EqW_o ek]
      exact this
  have fin : ∀ (K : MM) (p : Nat), p = rtP T la s → K 167 i = rtV T la s → (∀ j, j ≠ i → K 167 j = M 167 j) → (∀ p, p ≠ 167 → K p = M p) → wpB (Ev d) 36 Q X 14 [some (pR 164), some (pR 2), some (pI (s : Int)), some (pI (la : Int)), some (pI (i : Int)), some (pI (p : Int)), some (pI ((3 + 1 : Nat) : Int))] [] (kz LC) (PC b) K := by
    intro K p h1 h2 h3 h4
    subst h1
    have g1 : (3 : Int) < ((3 + 1 : Nat) : Int) := by decide
    have g2 : ¬ ((3 + 1 : Nat) : Int) ≤ 3 := by decide
    rw [s_36_14]
    simp only [s_36_0, s_36_1, s_36_4, s_36_6, s_36_7, s_36_8, s_36_9, s_36_11, s_36_12, s_36_16, s_36_17, s_36_20, s_36_22, s_36_23, s_36_26, s_36_27, s_36_29, s_36_33, s_36_35, s_36_38, s_36_39, s_36_42, s_36_44, s_36_45, s_36_46, s_36_47, s_36_49, s_36_50, s_36_51, s_36_52, s_36_55, s_36_58, s_36_61, s_36_63, true_and, and_true, sc0, sc1, sc2, sc3, sc4, Option.toList, List.cons_append, List.nil_append, clr, ne_eq, not_false_eq_true, not_true_eq_false, false_and, and_false, true_or, or_true, or_false, false_or, forall_const, Nat.reduceEqDiff, List.length_nil, List.length_cons, Nat.zero_le, Nat.reduceAdd, Nat.reduceLeDiff, false_implies, true_implies, Int.reduceEq, Int.reduceNe, Int.reduceLT, Int.reduceLE, Int.reduceNeg, Int.reduceToNat, Int.toNat_natCast, Nat.reduceLT, and_self, Decidable.not_not, kC_0, kC_1, kC_2, kC_3, kC_4, kC_5, kC_6, kC_7, kC_8, kC_9, kC_10, kC_11, kC_12, kC_13, kC_14, kC_15, kC_16, kC_17, kC_18, kC_19, kC_20, kC_21, kC_22, kC_23, kC_24, kC_25, kC_26, kC_27, kC_28, kC_29, kC_30, kC_31, kC_32, kC_145, kC_146, kC_147, kC_148, kC_149, kC_150, kC_151, kC_164, kC_165, kC_166, kC_167, kC_168, kC_169, kC_170, kC_171, kC_172, kC_173, kC_174, kC_175, kC_176, kC_177, kC_178, kC_179, kC_180, kC_181, kC_182, kC_183, kC_184, pC_1_0, pC_1_2, pC_1_3, pC_1_4, pC_1_5, pC_1_6, pC_1_7, pC_1_8, pC_1_9, pC_1_10, pC_1_11, pC_3_5, pC_5_0, pC_5_1, pC_5_2, pC_5_6, pC_5_7, pC_5_8, pC_5_9, pC_5_10, pC_13_0, pC_13_1, pC_13_2, pC_13_6, pC_13_7, pC_13_8, pC_13_9, pC_13_10, pC_21_0, pC_21_1, pC_21_2, pC_21_6, pC_21_7, pC_21_8, pC_21_9, pC_21_10, pC_29_0, pC_29_1, pC_29_2, pC_145_0, pC_145_1, pC_145_2, pC_145_3, pC_145_4, pC_149_0, pC_149_1, pC_149_2, pC_164_1, pC_164_2, pC_164_3, pC_168_0, pC_168_3, pC_168_4, pC_168_5, pC_172_0, pC_175_0, pC_175_2, pC_175_3, pC_175_5, pC_180_0, pC_180_2, pC_180_3, pC_180_5, g1, g2]
    exact hQ _ _ _ ⟨rfl, rfl, h2, h3, h4⟩
  have r1 := rt1_b (T := T) (la := la) (p := s) (x := 104)
  have r2 := rt1_b (T := T) (la := la) (p := rt1 T la s 104) (x := 98)
  have s3 : ∀ (K : MM) (p v : Nat), p = rt1 T la (rt1 T la s 104) 98 → 1 ≤ v → v < 8 → (v : Int) = 1 + rtb T la s 104 2 + rtb T la (rt1 T la s 104) 98 4 → K 167 i = (v : Int) → (∀ j, j ≠ i → K 167 j = M 167 j) → (∀ p, p ≠ 167 → K p = M p) → wpB (Ev d) 36 Q X 14 [some (pR 164), some (pR 2), some (pI (s : Int)), some (pI (la : Int)), some (pI (i : Int)), some (pI (p : Int)), some (pI ((2 + 1 : Nat) : Int))] [] (kz LC) (PC b) K := by
    intro K p v h1 h2 h3 h4 h5 h6 h7
    refine st 3 119 (by decide) (by decide) (fun y => kF_1.2.2) K p v (by omega) h5 (fun j hj => by rw [h7 2 (by decide)]; exact hT j hj) (fun w => ?_) (fun w => ?_)
    · refine fin _ _ (by unfold rtP; rw [← h1]; unfold rt1; rw [if_pos w]) ?_ (fun j hj => by rw [uM_at, if_pos rfl, if_neg hj]; exact h6 j hj) (fun p hp => by rw [uM_ne hp]; exact h7 p hp)
      rw [uM_at, if_pos rfl, if_pos rfl]
      unfold rtV
      rw [← h4, ← h1, show ((3 : Nat) : Int) = 3 from rfl, or_v3 v h3 h2]
      unfold rtb; rw [if_pos w]
    · refine fin _ _ (by unfold rtP; rw [← h1]; unfold rt1; rw [if_neg w]) ?_ h6 h7
      rw [h5]
      unfold rtV
      rw [← h4, ← h1]
      unfold rtb; rw [if_neg w, Int.add_zero]
  have s2 : ∀ (K : MM) (p v : Nat), p = rt1 T la s 104 → 1 ≤ v → v < 4 → (v : Int) = 1 + rtb T la s 104 2 → K 167 i = (v : Int) → (∀ j, j ≠ i → K 167 j = M 167 j) → (∀ p, p ≠ 167 → K p = M p) → wpB (Ev d) 36 Q X 14 [some (pR 164), some (pR 2), some (pI (s : Int)), some (pI (la : Int)), some (pI (i : Int)), some (pI (p : Int)), some (pI ((1 + 1 : Nat) : Int))] [] (kz LC) (PC b) K := by
    intro K p v h1 h2 h3 h4 h5 h6 h7
    refine st 2 98 (by decide) (by decide) (fun y => kF_1.2.1) K p v (by omega) h5 (fun j hj => by rw [h7 2 (by decide)]; exact hT j hj) (fun w => ?_) (fun w => ?_)
    · refine s3 _ _ (v + 4) (by rw [← h1]; unfold rt1; rw [if_pos w]) (by omega) (by omega) ?_ ?_ (fun j hj => by rw [uM_at, if_pos rfl, if_neg hj]; exact h6 j hj) (fun p hp => by rw [uM_ne hp]; exact h7 p hp)
      · rw [← h4, ← h1]; unfold rtb; rw [if_pos w]; rfl
      · rw [uM_at, if_pos rfl, if_pos rfl, show ((2 : Nat) : Int) = 2 from rfl, or_v2 v h3 h2]; rfl
    · refine s3 _ _ v (by rw [← h1]; unfold rt1; rw [if_neg w]) (by omega) (by omega) ?_ h5 h6 h7
      rw [← h4, ← h1]; unfold rtb; rw [if_neg w, Int.add_zero]
  simp only [s_36_0, s_36_1, s_36_4, s_36_6, s_36_7, s_36_8, s_36_9, s_36_11, s_36_12, s_36_16, s_36_17, s_36_20, s_36_22, s_36_23, s_36_26, s_36_27, s_36_29, s_36_33, s_36_35, s_36_38, s_36_39, s_36_42, s_36_44, s_36_45, s_36_46, s_36_47, s_36_49, s_36_50, s_36_51, s_36_52, s_36_55, s_36_58, s_36_61, s_36_63, true_and, and_true, sc0, sc1, sc2, sc3, sc4, Option.toList, List.cons_append, List.nil_append, clr, ne_eq, not_false_eq_true, not_true_eq_false, false_and, and_false, true_or, or_true, or_false, false_or, forall_const, Nat.reduceEqDiff, List.length_nil, List.length_cons, Nat.zero_le, Nat.reduceAdd, Nat.reduceLeDiff, false_implies, true_implies, Int.reduceEq, Int.reduceNe, Int.reduceLT, Int.reduceLE, Int.reduceNeg, Int.reduceToNat, Int.toNat_natCast, Nat.reduceLT, and_self, Decidable.not_not, kC_0, kC_1, kC_2, kC_3, kC_4, kC_5, kC_6, kC_7, kC_8, kC_9, kC_10, kC_11, kC_12, kC_13, kC_14, kC_15, kC_16, kC_17, kC_18, kC_19, kC_20, kC_21, kC_22, kC_23, kC_24, kC_25, kC_26, kC_27, kC_28, kC_29, kC_30, kC_31, kC_32, kC_145, kC_146, kC_147, kC_148, kC_149, kC_150, kC_151, kC_164, kC_165, kC_166, kC_167, kC_168, kC_169, kC_170, kC_171, kC_172, kC_173, kC_174, kC_175, kC_176, kC_177, kC_178, kC_179, kC_180, kC_181, kC_182, kC_183, kC_184, pC_1_0, pC_1_2, pC_1_3, pC_1_4, pC_1_5, pC_1_6, pC_1_7, pC_1_8, pC_1_9, pC_1_10, pC_1_11, pC_3_5, pC_5_0, pC_5_1, pC_5_2, pC_5_6, pC_5_7, pC_5_8, pC_5_9, pC_5_10, pC_13_0, pC_13_1, pC_13_2, pC_13_6, pC_13_7, pC_13_8, pC_13_9, pC_13_10, pC_21_0, pC_21_1, pC_21_2, pC_21_6, pC_21_7, pC_21_8, pC_21_9, pC_21_10, pC_29_0, pC_29_1, pC_29_2, pC_145_0, pC_145_1, pC_145_2, pC_145_3, pC_145_4, pC_149_0, pC_149_1, pC_149_2, pC_164_1, pC_164_2, pC_164_3, pC_168_0, pC_168_3, pC_168_4, pC_168_5, pC_172_0, pC_175_0, pC_175_2, pC_175_3, pC_175_5, pC_180_0, pC_180_2, pC_180_3, pC_180_5, b0]
  refine st 1 104 (by decide) (by decide) (fun y => kF_1.1) (uM M 167 i 1) s 1 (by omega) (by simp [uM_at]) (fun j hj => by rw [uM_ne (by decide)]; exact hT j hj) (fun w => ?_) (fun w => ?_)
  · refine s2 _ _ 3 (by unfold rt1; rw [if_pos w]) (by decide) (by decide) ?_ ?_ (fun j hj => by rw [uM_at, if_pos rfl, if_neg hj, uM_at, if_pos rfl, if_neg hj]) (fun p hp => by rw [uM_ne hp, uM_ne hp])
    · unfold rtb; rw [if_pos w]; rfl
    · rw [uM_at, if_pos rfl, if_pos rfl]; exact or_v1 1 (by decide) (by decide)
  · refine s2 _ _ 1 (by unfold rt1; rw [if_neg w]) (by decide) (by decide) ?_ (by simp [uM_at]) (fun j hj => by rw [uM_at, if_pos rfl, if_neg hj]) (fun p hp => by rw [uM_ne hp])
    unfold rtb; rw [if_neg w]; rfl
end
