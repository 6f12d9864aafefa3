/-! reading a whole rule -/
theorem stk_get {N : MM} {a : Nat} : ∀ {t : List Int}, stk N a t → ∀ i, i < t.length → N a i ∈ t
  | [], _, i, hi => absurd hi (Nat.not_lt_zero _)
  | x :: t, h, i, hi => by
    have hi' : i < t.length + 1 := hi
    by_cases e : i = t.length
    · subst e; rw [h.1]; simp
    · exact List.mem_cons_of_mem _ (stk_get h.2 i (by omega))
theorem xrun_xs {N : MM} {a : Nat} {e : Nat → Int} : ∀ (t : List Int), stk N a t → xrun (N a) e t.length = xs e t.reverse []
  | [], _ => rfl
  | x :: t, h => by
    show (xrun (N a) e t.length).bind (fun st => xop e st (N a t.length)) = _
    rw [xrun_xs t h.2, h.1, List.reverse_cons, xs_app]
    congr 1
    funext st
    show _ = (xop e st x).bind (xs e [])
    cases xop e st x <;> rfl
theorem yRun_some {T : Nat → Int} {L i : Nat} {s s' : YS} (hi : i < L) (h : yTake s (T i) = some s') : yRun T L (L - i) i s = yRun T L (L - (i + 1)) (i + 1) s' := (yTo_s hi h).2.2
theorem yRun_none {T : Nat → Int} {L i : Nat} {s : YS} (hi : i < L) (h : yTake s (T i) = none) : yRun T L (L - i) i s = Sum.inl i := by
  obtain ⟨k, hk⟩ : ∃ k, L - i = k + 1 := ⟨L - i - 1, by omega⟩
  rw [hk]
  show (if i < L then _ else _) = _
  rw [if_pos hi, h]
section
variable {M : MM} {b : Bool} {q : Nat} {T : Nat → Int}
theorem c_read {sg ln sz : Nat} (hq : ruQ q) (hsg : kd (kz LC) sg = (4, sz) ∨ (sg = 0 ∧ kd (kz LC) sg = (9, sz))) (hs5 : sg < 170) (h0 : 0 < ln) (hln : ln ≤ sz) (hsz : sz ≤ 80) (hT : ∀ j, j < ln → M sg j = T j ∧ 0 ≤ T j ∧ T j < 256) : Cw 4 13 [pR q, pR sg, pI (ln : Int)] LC (PC b) M (fun v P' M' => P' = PC b ∧ same M' M [q, q + 1, q + 3, q + 4] ∧ (∀ w, gRead T ln = Sum.inl w → v = some (pI (w : Int))) ∧ (∀ V, gRead T ln = Sum.inr V → v = some (pI (-1)) ∧ RuV M' q V)) := by
  refine Cw_k [some (pR q), some (pR sg), some (pI (ln : Int)), none, none, none] (Nat.le_of_ble_eq_true rfl) rfl (fun d hd Q X hQ => ?_)
  have hq175 : 175 ≤ q := by rcases hq with rfl | rfl <;> decide
  have emin : (if (40 : Int) < (ln : Int) then (40 : Int) else (ln : Int)) = ((min ln 40 : Nat) : Int) := by split <;> omega
  have hks : ((kd (kz LC) sg).1 = 4 ∨ (sg = 0 ∧ (kd (kz LC) sg).1 = 9)) ∧ (kd (kz LC) sg).2 = sz := by
    rcases hsg with e | ⟨e1, e2⟩
    · rw [e]; exact ⟨Or.inl rfl, rfl⟩
    · rw [e2]; exact ⟨Or.inr ⟨e1, rfl⟩, rfl⟩
  have n0 : ¬ q + 4 = 0 := by omega
  have n1 : ¬ q = q + 4 := by omega
  have bz : (0 : Int) < ((5 : Nat) : Int) := by decide
  simp only [s_13_0, s_13_1, s_13_3, s_13_6, s_13_7, s_13_8, s_13_9, s_13_12, s_13_13, s_13_14, s_13_17, s_13_18, s_13_19, s_13_22, s_13_23, s_13_26, s_13_27, s_13_28, s_13_29, s_13_30, s_13_31, s_13_34, s_13_35, s_13_36, s_13_39, s_13_40, s_13_44, s_13_45, s_13_48, s_13_49, s_13_52, s_13_55, s_13_56, s_13_57, s_13_59, s_13_63, s_13_66, s_13_67, s_13_68, s_13_70, s_13_74, s_13_76, s_13_78, s_13_81, s_13_83, s_13_84, s_13_87, s_13_90, s_13_91, s_13_92, s_13_95, s_13_96, s_13_99, s_13_102, s_13_103, s_13_106, s_13_109, s_13_110, s_13_111, s_13_112, s_13_116, s_13_117, true_and, and_true, sc0, sc1, sc2, sc3, sc4, Option.toList, List.cons_append, List.nil_append, clr, ne_eq, not_false_eq_true, not_true_eq_false, false_and, and_false, true_or, or_true, or_false, false_or, forall_const, Nat.reduceEqDiff, List.length_nil, List.length_cons, Nat.zero_le, Nat.reduceAdd, Nat.reduceLeDiff, false_implies, true_implies, Int.reduceEq, Int.reduceNe, Int.reduceLT, Int.reduceLE, Int.reduceNeg, Int.reduceToNat, Int.toNat_natCast, Nat.reduceLT, and_self, Decidable.not_not, kC_0, kC_1, kC_2, kC_3, kC_4, kC_5, kC_6, kC_7, kC_8, kC_9, kC_10, kC_11, kC_12, kC_13, kC_14, kC_15, kC_16, kC_17, kC_18, kC_19, kC_20, kC_21, kC_22, kC_23, kC_24, kC_25, kC_26, kC_27, kC_28, kC_29, kC_30, kC_31, kC_32, kC_145, kC_146, kC_147, kC_148, kC_149, kC_150, kC_151, kC_164, kC_165, kC_166, kC_167, kC_168, kC_169, kC_170, kC_171, kC_172, kC_173, kC_174, kC_175, kC_176, kC_177, kC_178, kC_179, kC_180, kC_181, kC_182, kC_183, kC_184, pC_1_0, pC_1_2, pC_1_3, pC_1_4, pC_1_5, pC_1_6, pC_1_7, pC_1_8, pC_1_9, pC_1_10, pC_1_11, pC_3_5, pC_5_0, pC_5_1, pC_5_2, pC_5_6, pC_5_7, pC_5_8, pC_5_9, pC_5_10, pC_13_0, pC_13_1, pC_13_2, pC_13_6, pC_13_7, pC_13_8, pC_13_9, pC_13_10, pC_21_0, pC_21_1, pC_21_2, pC_21_6, pC_21_7, pC_21_8, pC_21_9, pC_21_10, pC_29_0, pC_29_1, pC_29_2, pC_145_0, pC_145_1, pC_145_2, pC_145_3, pC_145_4, pC_149_0, pC_149_1, pC_149_2, pC_164_1, pC_164_2, pC_164_3, pC_168_0, pC_168_3, pC_168_4, pC_168_5, pC_172_0, pC_175_0, pC_175_2, pC_175_3, pC_175_5, pC_180_0, pC_180_2, pC_180_3, pC_180_5, ru_k hq, ru_p5 hq, ru_k4 hq, n0, emin, bz, Int.le_refl]
  generalize hM1 : uM (uM (uM (uM (uM (uM M q 1 0) q 4 0) q 6 0) (q + 4) 0 0) q 7 0) q 8 1 = M1
  have hs1 : same M1 M [q, q + 1, q + 3, q + 4] := by
    rw [← hM1]
    exact same_u (same_u (same_u (same_u (same_u (same_u (fun _ _ => rfl) (by simp)) (by simp)) (by simp)) (by simp)) (by simp)) (by simp)
  have hY1 : YM M1 q ([], [], (fun _ => false), 0, 0, true) := by
    refine ⟨?_, trivial, ?_, trivial, fun j hj => ?_, ?_, ?_, ?_⟩
    · rw [← hM1]; simp [uM_at, n1]
    · rw [← hM1]; simp [uM_at, n1]
    · have hj' : j ≤ 0 := hj
      obtain rfl : j = 0 := by omega
      rw [← hM1]; simp [uM_at]
    · rw [← hM1]; simp [uM_at, n1]
    · rw [← hM1]; simp [uM_at, n1]
    · rw [← hM1]; simp [uM_at, n1]
  obtain ⟨tb, tg9⟩ := yTop (T := T) h0 (fun _ => false) rfl 0
  have hLL : min ln 40 ≤ 40 := Nat.min_le_right _ _
  have hLn : min ln 40 ≤ ln := Nat.min_le_left _ _
  generalize min ln 40 = L at tb tg9 hLL hLn ⊢
  generalize hs0 : (([], [], (fun _ => false), 0, 0, true) : YS) = s0 at tb tg9 hY1
  have hO0 : YOK s0 := by
    rw [← hs0]
    exact ⟨by decide, by decide, fun x hx => (by cases hx), fun x hx => (by cases hx), fun h => absurd h (by decide)⟩
  have hlen0 : s0.1.length + s0.2.1.length ≤ 0 := by rw [← hs0]; exact Nat.le_refl _
  refine lup (α := YS × MM × Option PV) (I := fun i x => yRun T L (L - i) i x.1 = yRun T L L 0 s0 ∧ YM x.2.1 q x.1 ∧ YOK x.1 ∧ x.1.1.length + x.1.2.1.length ≤ i ∧ same x.2.1 M [q, q + 1, q + 3, q + 4]) (G := fun i x => wpB (Ev d) 13 Q X 42 [some (pR q), some (pR sg), some (pI (ln : Int)), some (pI (L : Int)), some (pI (i : Int)), x.2.2] [] (kz LC) (PC b) x.2.1) L (fun x hx => ?_) (fun i x hi hx ih => ?_) 0 (s0, M1, none) (Nat.zero_le _) ⟨rfl, hY1, hO0, hlen0, hs1⟩
  · obtain ⟨s, N, l5⟩ := x
    obtain ⟨a1, a2, a3, a4, a5⟩ := hx
    dsimp only at a1 a2 a3 a4 a5 ⊢
    rw [Nat.sub_self] at a1
    replace a1 : yRun T L L 0 s0 = Sum.inr s := a1.symm
    obtain ⟨code, wait, cm, op, dg, wn⟩ := s
    obtain ⟨y1, y2, y3, y4, y5, y6, y7, y8⟩ := a2
    obtain ⟨o1, o2, o3, o4, o5⟩ := a3
    dsimp only at y1 y2 y3 y4 y5 y6 y7 y8 o1 o2 o3 o4 o5 a4
    have hbad : (L < ln ∨ wn = true ∨ 0 < op) → Q (some (pI (L : Int))) (kz LC) (PC b) N := by
      intro hb
      refine hQ _ _ _ ⟨rfl, a5, fun w hw => ?_, fun V hV => ?_⟩
      · rcases tb w hw with z | ⟨z, _⟩
        · rw [a1] at z; cases z
        · rw [z]
      · obtain ⟨z1, s', z2, z3, z4, _⟩ := tg9 V hV
        rw [a1] at z2
        obtain rfl := Sum.inr.inj z2
        dsimp only at z3 z4
        rcases hb with hb | hb | hb
        · omega
        · rw [z3] at hb; cases hb
        · omega
    rw [s_13_42]
    by_cases c1 : L < ln
    · have e1 : (L : Int) < (ln : Int) := by omega
      simp only [s_13_0, s_13_1, s_13_3, s_13_6, s_13_7, s_13_8, s_13_9, s_13_12, s_13_13, s_13_14, s_13_17, s_13_18, s_13_19, s_13_22, s_13_23, s_13_26, s_13_27, s_13_28, s_13_29, s_13_30, s_13_31, s_13_34, s_13_35, s_13_36, s_13_39, s_13_40, s_13_44, s_13_45, s_13_48, s_13_49, s_13_52, s_13_55, s_13_56, s_13_57, s_13_59, s_13_63, s_13_66, s_13_67, s_13_68, s_13_70, s_13_74, s_13_76, s_13_78, s_13_81, s_13_83, s_13_84, s_13_87, s_13_90, s_13_91, s_13_92, s_13_95, s_13_96, s_13_99, s_13_102, s_13_103, s_13_106, s_13_109, s_13_110, s_13_111, s_13_112, s_13_116, s_13_117, true_and, and_true, sc0, sc1, sc2, sc3, sc4, Option.toList, List.cons_append, List.nil_append, clr, ne_eq, not_false_eq_true, not_true_eq_false, false_and, and_false, true_or, or_true, or_false, false_or, forall_const, Nat.reduceEqDiff, List.length_nil, List.length_cons, Nat.zero_le, Nat.reduceAdd, Nat.reduceLeDiff, false_implies, true_implies, Int.reduceEq, Int.reduceNe, Int.reduceLT, Int.reduceLE, Int.reduceNeg, Int.reduceToNat, Int.toNat_natCast, Nat.reduceLT, and_self, Decidable.not_not, kC_0, kC_1, kC_2, kC_3, kC_4, kC_5, kC_6, kC_7, kC_8, kC_9, kC_10, kC_11, kC_12, kC_13, kC_14, kC_15, kC_16, kC_17, kC_18, kC_19, kC_20, kC_21, kC_22, kC_23, kC_24, kC_25, kC_26, kC_27, kC_28, kC_29, kC_30, kC_31, kC_32, kC_145, kC_146, kC_147, kC_148, kC_149, kC_150, kC_151, kC_164, kC_165, kC_166, kC_167, kC_168, kC_169, kC_170, kC_171, kC_172, kC_173, kC_174, kC_175, kC_176, kC_177, kC_178, kC_179, kC_180, kC_181, kC_182, kC_183, kC_184, pC_1_0, pC_1_2, pC_1_3, pC_1_4, pC_1_5, pC_1_6, pC_1_7, pC_1_8, pC_1_9, pC_1_10, pC_1_11, pC_3_5, pC_5_0, pC_5_1, pC_5_2, pC_5_6, pC_5_7, pC_5_8, pC_5_9, pC_5_10, pC_13_0, pC_13_1, pC_13_2, pC_13_6, pC_13_7, pC_13_8, pC_13_9, pC_13_10, pC_21_0, pC_21_1, pC_21_2, pC_21_6, pC_21_7, pC_21_8, pC_21_9, pC_21_10, pC_29_0, pC_29_1, pC_29_2, pC_145_0, pC_145_1, pC_145_2, pC_145_3, pC_145_4, pC_149_0, pC_149_1, pC_149_2, pC_164_1, pC_164_2, pC_164_3, pC_168_0, pC_168_3, pC_168_4, pC_168_5, pC_172_0, pC_175_0, pC_175_2, pC_175_3, pC_175_5, pC_180_0, pC_180_2, pC_180_3, pC_180_5, Int.le_refl, e1]
      exact hbad (Or.inl c1)
    have e1 : ¬ (L : Int) < (ln : Int) := by omega
    cases wn with
    | true =>
      simp only [if_true] at y8
      have e2 : ¬ (1 : Int) = 0 := by decide
      simp only [s_13_0, s_13_1, s_13_3, s_13_6, s_13_7, s_13_8, s_13_9, s_13_12, s_13_13, s_13_14, s_13_17, s_13_18, s_13_19, s_13_22, s_13_23, s_13_26, s_13_27, s_13_28, s_13_29, s_13_30, s_13_31, s_13_34, s_13_35, s_13_36, s_13_39, s_13_40, s_13_44, s_13_45, s_13_48, s_13_49, s_13_52, s_13_55, s_13_56, s_13_57, s_13_59, s_13_63, s_13_66, s_13_67, s_13_68, s_13_70, s_13_74, s_13_76, s_13_78, s_13_81, s_13_83, s_13_84, s_13_87, s_13_90, s_13_91, s_13_92, s_13_95, s_13_96, s_13_99, s_13_102, s_13_103, s_13_106, s_13_109, s_13_110, s_13_111, s_13_112, s_13_116, s_13_117, true_and, and_true, sc0, sc1, sc2, sc3, sc4, Option.toList, List.cons_append, List.nil_append, clr, ne_eq, not_false_eq_true, not_true_eq_false, false_and, and_false, true_or, or_true, or_false, false_or, forall_const, Nat.reduceEqDiff, List.length_nil, List.length_cons, Nat.zero_le, Nat.reduceAdd, Nat.reduceLeDiff, false_implies, true_implies, Int.reduceEq, Int.reduceNe, Int.reduceLT, Int.reduceLE, Int.reduceNeg, Int.reduceToNat, Int.toNat_natCast, Nat.reduceLT, and_self, Decidable.not_not, kC_0, kC_1, kC_2, kC_3, kC_4, kC_5, kC_6, kC_7, kC_8, kC_9, kC_10, kC_11, kC_12, kC_13, kC_14, kC_15, kC_16, kC_17, kC_18, kC_19, kC_20, kC_21, kC_22, kC_23, kC_24, kC_25, kC_26, kC_27, kC_28, kC_29, kC_30, kC_31, kC_32, kC_145, kC_146, kC_147, kC_148, kC_149, kC_150, kC_151, kC_164, kC_165, kC_166, kC_167, kC_168, kC_169, kC_170, kC_171, kC_172, kC_173, kC_174, kC_175, kC_176, kC_177, kC_178, kC_179, kC_180, kC_181, kC_182, kC_183, kC_184, pC_1_0, pC_1_2, pC_1_3, pC_1_4, pC_1_5, pC_1_6, pC_1_7, pC_1_8, pC_1_9, pC_1_10, pC_1_11, pC_3_5, pC_5_0, pC_5_1, pC_5_2, pC_5_6, pC_5_7, pC_5_8, pC_5_9, pC_5_10, pC_13_0, pC_13_1, pC_13_2, pC_13_6, pC_13_7, pC_13_8, pC_13_9, pC_13_10, pC_21_0, pC_21_1, pC_21_2, pC_21_6, pC_21_7, pC_21_8, pC_21_9, pC_21_10, pC_29_0, pC_29_1, pC_29_2, pC_145_0, pC_145_1, pC_145_2, pC_145_3, pC_145_4, pC_149_0, pC_149_1, pC_149_2, pC_164_1, pC_164_2, pC_164_3, pC_168_0, pC_168_3, pC_168_4, pC_168_5, pC_172_0, pC_175_0, pC_175_2, pC_175_3, pC_175_5, pC_180_0, pC_180_2, pC_180_3, pC_180_5, Int.le_refl, e1, ru_k hq, y8]
      exact hbad (Or.inr (Or.inl rfl))
    | false =>
      simp only [Bool.false_eq_true, if_false] at y8
      by_cases c2 : 0 < op
      · have e3 : ¬ (op : Int) ≤ 0 := by omega
        simp only [s_13_0, s_13_1, s_13_3, s_13_6, s_13_7, s_13_8, s_13_9, s_13_12, s_13_13, s_13_14, s_13_17, s_13_18, s_13_19, s_13_22, s_13_23, s_13_26, s_13_27, s_13_28, s_13_29, s_13_30, s_13_31, s_13_34, s_13_35, s_13_36, s_13_39, s_13_40, s_13_44, s_13_45, s_13_48, s_13_49, s_13_52, s_13_55, s_13_56, s_13_57, s_13_59, s_13_63, s_13_66, s_13_67, s_13_68, s_13_70, s_13_74, s_13_76, s_13_78, s_13_81, s_13_83, s_13_84, s_13_87, s_13_90, s_13_91, s_13_92, s_13_95, s_13_96, s_13_99, s_13_102, s_13_103, s_13_106, s_13_109, s_13_110, s_13_111, s_13_112, s_13_116, s_13_117, true_and, and_true, sc0, sc1, sc2, sc3, sc4, Option.toList, List.cons_append, List.nil_append, clr, ne_eq, not_false_eq_true, not_true_eq_false, false_and, and_false, true_or, or_true, or_false, false_or, forall_const, Nat.reduceEqDiff, List.length_nil, List.length_cons, Nat.zero_le, Nat.reduceAdd, Nat.reduceLeDiff, false_implies, true_implies, Int.reduceEq, Int.reduceNe, Int.reduceLT, Int.reduceLE, Int.reduceNeg, Int.reduceToNat, Int.toNat_natCast, Nat.reduceLT, and_self, Decidable.not_not, kC_0, kC_1, kC_2, kC_3, kC_4, kC_5, kC_6, kC_7, kC_8, kC_9, kC_10, kC_11, kC_12, kC_13, kC_14, kC_15, kC_16, kC_17, kC_18, kC_19, kC_20, kC_21, kC_22, kC_23, kC_24, kC_25, kC_26, kC_27, kC_28, kC_29, kC_30, kC_31, kC_32, kC_145, kC_146, kC_147, kC_148, kC_149, kC_150, kC_151, kC_164, kC_165, kC_166, kC_167, kC_168, kC_169, kC_170, kC_171, kC_172, kC_173, kC_174, kC_175, kC_176, kC_177, kC_178, kC_179, kC_180, kC_181, kC_182, kC_183, kC_184, pC_1_0, pC_1_2, pC_1_3, pC_1_4, pC_1_5, pC_1_6, pC_1_7, pC_1_8, pC_1_9, pC_1_10, pC_1_11, pC_3_5, pC_5_0, pC_5_1, pC_5_2, pC_5_6, pC_5_7, pC_5_8, pC_5_9, pC_5_10, pC_13_0, pC_13_1, pC_13_2, pC_13_6, pC_13_7, pC_13_8, pC_13_9, pC_13_10, pC_21_0, pC_21_1, pC_21_2, pC_21_6, pC_21_7, pC_21_8, pC_21_9, pC_21_10, pC_29_0, pC_29_1, pC_29_2, pC_145_0, pC_145_1, pC_145_2, pC_145_3, pC_145_4, pC_149_0, pC_149_1, pC_149_2, pC_164_1, pC_164_2, pC_164_3, pC_168_0, pC_168_3, pC_168_4, pC_168_5, pC_172_0, pC_175_0, pC_175_2, pC_175_3, pC_175_5, pC_180_0, pC_180_2, pC_180_3, pC_180_5, Int.le_refl, e1, ru_k hq, y8, y6, e3]
        exact hbad (Or.inr (Or.inr c2))
      · have e3 : (op : Int) ≤ 0 := by omega
        simp only [s_13_0, s_13_1, s_13_3, s_13_6, s_13_7, s_13_8, s_13_9, s_13_12, s_13_13, s_13_14, s_13_17, s_13_18, s_13_19, s_13_22, s_13_23, s_13_26, s_13_27, s_13_28, s_13_29, s_13_30, s_13_31, s_13_34, s_13_35, s_13_36, s_13_39, s_13_40, s_13_44, s_13_45, s_13_48, s_13_49, s_13_52, s_13_55, s_13_56, s_13_57, s_13_59, s_13_63, s_13_66, s_13_67, s_13_68, s_13_70, s_13_74, s_13_76, s_13_78, s_13_81, s_13_83, s_13_84, s_13_87, s_13_90, s_13_91, s_13_92, s_13_95, s_13_96, s_13_99, s_13_102, s_13_103, s_13_106, s_13_109, s_13_110, s_13_111, s_13_112, s_13_116, s_13_117, true_and, and_true, sc0, sc1, sc2, sc3, sc4, Option.toList, List.cons_append, List.nil_append, clr, ne_eq, not_false_eq_true, not_true_eq_false, false_and, and_false, true_or, or_true, or_false, false_or, forall_const, Nat.reduceEqDiff, List.length_nil, List.length_cons, Nat.zero_le, Nat.reduceAdd, Nat.reduceLeDiff, false_implies, true_implies, Int.reduceEq, Int.reduceNe, Int.reduceLT, Int.reduceLE, Int.reduceNeg, Int.reduceToNat, Int.toNat_natCast, Nat.reduceLT, and_self, Decidable.not_not, kC_0, kC_1, kC_2, kC_3, kC_4, kC_5, kC_6, kC_7, kC_8, kC_9, kC_10, kC_11, kC_12, kC_13, kC_14, kC_15, kC_16, kC_17, kC_18, kC_19, kC_20, kC_21, kC_22, kC_23, kC_24, kC_25, kC_26, kC_27, kC_28, kC_29, kC_30, kC_31, kC_32, kC_145, kC_146, kC_147, kC_148, kC_149, kC_150, kC_151, kC_164, kC_165, kC_166, kC_167, kC_168, kC_169, kC_170, kC_171, kC_172, kC_173, kC_174, kC_175, kC_176, kC_177, kC_178, kC_179, kC_180, kC_181, kC_182, kC_183, kC_184, pC_1_0, pC_1_2, pC_1_3, pC_1_4, pC_1_5, pC_1_6, pC_1_7, pC_1_8, pC_1_9, pC_1_10, pC_1_11, pC_3_5, pC_5_0, pC_5_1, pC_5_2, pC_5_6, pC_5_7, pC_5_8, pC_5_9, pC_5_10, pC_13_0, pC_13_1, pC_13_2, pC_13_6, pC_13_7, pC_13_8, pC_13_9, pC_13_10, pC_21_0, pC_21_1, pC_21_2, pC_21_6, pC_21_7, pC_21_8, pC_21_9, pC_21_10, pC_29_0, pC_29_1, pC_29_2, pC_145_0, pC_145_1, pC_145_2, pC_145_3, pC_145_4, pC_149_0, pC_149_1, pC_149_2, pC_164_1, pC_164_2, pC_164_3, pC_168_0, pC_168_3, pC_168_4, pC_168_5, pC_172_0, pC_175_0, pC_175_2, pC_175_3, pC_175_5, pC_180_0, pC_180_2, pC_180_3, pC_180_5, Int.le_refl, e1, ru_k hq, y8, y6, e3]
        obtain ⟨v, P', M', hE, rfl, rfl, r1, r2, r3, r4, r5, r6⟩ := c_release (b := b) (M := N) (bb := 1) (code := code) (w := wait) hq y1 y2 y3 y4 (by omega) (fun x hx => by have := o4 x hx; omega) d (by omega)
        refine s_13_113 (Nat.le_of_ble_eq_true rfl) (ru_k hq) hE ?_
        simp only [s_13_0, s_13_1, s_13_3, s_13_6, s_13_7, s_13_8, s_13_9, s_13_12, s_13_13, s_13_14, s_13_17, s_13_18, s_13_19, s_13_22, s_13_23, s_13_26, s_13_27, s_13_28, s_13_29, s_13_30, s_13_31, s_13_34, s_13_35, s_13_36, s_13_39, s_13_40, s_13_44, s_13_45, s_13_48, s_13_49, s_13_52, s_13_55, s_13_56, s_13_57, s_13_59, s_13_63, s_13_66, s_13_67, s_13_68, s_13_70, s_13_74, s_13_76, s_13_78, s_13_81, s_13_83, s_13_84, s_13_87, s_13_90, s_13_91, s_13_92, s_13_95, s_13_96, s_13_99, s_13_102, s_13_103, s_13_106, s_13_109, s_13_110, s_13_111, s_13_112, s_13_116, s_13_117, true_and, and_true, sc0, sc1, sc2, sc3, sc4, Option.toList, List.cons_append, List.nil_append, clr, ne_eq, not_false_eq_true, not_true_eq_false, false_and, and_false, true_or, or_true, or_false, false_or, forall_const, Nat.reduceEqDiff, List.length_nil, List.length_cons, Nat.zero_le, Nat.reduceAdd, Nat.reduceLeDiff, false_implies, true_implies, Int.reduceEq, Int.reduceNe, Int.reduceLT, Int.reduceLE, Int.reduceNeg, Int.reduceToNat, Int.toNat_natCast, Nat.reduceLT, and_self, Decidable.not_not, kC_0, kC_1, kC_2, kC_3, kC_4, kC_5, kC_6, kC_7, kC_8, kC_9, kC_10, kC_11, kC_12, kC_13, kC_14, kC_15, kC_16, kC_17, kC_18, kC_19, kC_20, kC_21, kC_22, kC_23, kC_24, kC_25, kC_26, kC_27, kC_28, kC_29, kC_30, kC_31, kC_32, kC_145, kC_146, kC_147, kC_148, kC_149, kC_150, kC_151, kC_164, kC_165, kC_166, kC_167, kC_168, kC_169, kC_170, kC_171, kC_172, kC_173, kC_174, kC_175, kC_176, kC_177, kC_178, kC_179, kC_180, kC_181, kC_182, kC_183, kC_184, pC_1_0, pC_1_2, pC_1_3, pC_1_4, pC_1_5, pC_1_6, pC_1_7, pC_1_8, pC_1_9, pC_1_10, pC_1_11, pC_3_5, pC_5_0, pC_5_1, pC_5_2, pC_5_6, pC_5_7, pC_5_8, pC_5_9, pC_5_10, pC_13_0, pC_13_1, pC_13_2, pC_13_6, pC_13_7, pC_13_8, pC_13_9, pC_13_10, pC_21_0, pC_21_1, pC_21_2, pC_21_6, pC_21_7, pC_21_8, pC_21_9, pC_21_10, pC_29_0, pC_29_1, pC_29_2, pC_145_0, pC_145_1, pC_145_2, pC_145_3, pC_145_4, pC_149_0, pC_149_1, pC_149_2, pC_164_1, pC_164_2, pC_164_3, pC_168_0, pC_168_3, pC_168_4, pC_168_5, pC_172_0, pC_175_0, pC_175_2, pC_175_3, pC_175_5, pC_180_0, pC_180_2, pC_180_3, pC_180_5]
        refine hQ _ _ _ ⟨rfl, fun p hp => ?_, fun w hw => ?_, fun V hV => ⟨rfl, ?_⟩⟩
        · simp at hp
          rw [r6 p (by simp; omega)]; exact a5 p (by simp; omega)
        · rcases tb w hw with z | ⟨_, s', z2, z3⟩
          · rw [a1] at z; cases z
          · rw [a1] at z2
            obtain rfl := Sum.inr.inj z2
            dsimp only at z3
            rcases z3 with z3 | z3 | z3
            · exact absurd z3 c1
            · cases z3
            · exact absurd z3 c2
        · obtain ⟨z1, s', z2, z3, z4, c, z5, z6⟩ := tg9 V hV
          rw [a1] at z2
          obtain rfl := Sum.inr.inj z2
          dsimp only at z5
          have hm := (yRel_mem (bb := 1) wait code).1
          have hlen := yRel_len (bb := 1) wait code
          rw [z5] at r1 r2 hm hlen
          refine ⟨c.length, r1, ?_, fun i hi => ?_, fun e => ?_⟩
          · have : c.length + 0 = code.length + wait.length := hlen
            omega
          · have := stk_get r2 i (by rw [List.length_reverse]; exact hi)
            rw [List.mem_reverse] at this
            rcases hm _ this with z | ⟨y, z7, z8⟩
            · exact o3 _ z
            · have := o4 y z7; omega
          · have := xrun_xs (e := e) c.reverse r2
            rw [List.length_reverse, List.reverse_reverse] at this
            rw [this]; exact z6 e
  · obtain ⟨s, N, l5⟩ := x
    obtain ⟨a1, a2, a3, a4, a5⟩ := hx
    dsimp only at a1 a2 a3 a4 a5 ⊢
    have hTi := hT i (by omega)
    have eN : N sg i = T i := by rw [a5 sg (by simp; omega)]; exact hTi.1
    have e0 : ¬ (L : Int) ≤ (i : Int) := by omega
    have b0 : (0 : Int) ≤ (i : Int) := by omega
    have b1 : (i : Int) < (sz : Int) := by omega
    have en := EqW_i (w32n (show i < 1000000 by omega))
    have y8 := a2.2.2.2.2.2.2.2
    have fin : ∀ (v : Option PV) (P' : PM) (M' : MM) (res : Option YS), yTake s (T i) = res → TkP N b q s res v P' M' → ∃ x : Int, v = some (pI x) ∧ P' = PC b ∧ wpB (Ev d) 13 Q X 74 [some (pR q), some (pR sg), some (pI (ln : Int)), some (pI (L : Int)), some (pI (i : Int)), l5] [pI x] (kz LC) (PC b) M' := by
      intro v P' M' res hres hT9
      obtain ⟨t1, t2, t3, t4⟩ := hT9
      have hsM : same M' M [q, q + 1, q + 3, q + 4] := fun p hp => (t2 p hp).trans (a5 p hp)
      cases res with
      | none =>
        refine ⟨0, t4 rfl, t1, ?_⟩
        simp only [s_13_0, s_13_1, s_13_3, s_13_6, s_13_7, s_13_8, s_13_9, s_13_12, s_13_13, s_13_14, s_13_17, s_13_18, s_13_19, s_13_22, s_13_23, s_13_26, s_13_27, s_13_28, s_13_29, s_13_30, s_13_31, s_13_34, s_13_35, s_13_36, s_13_39, s_13_40, s_13_44, s_13_45, s_13_48, s_13_49, s_13_52, s_13_55, s_13_56, s_13_57, s_13_59, s_13_63, s_13_66, s_13_67, s_13_68, s_13_70, s_13_74, s_13_76, s_13_78, s_13_81, s_13_83, s_13_84, s_13_87, s_13_90, s_13_91, s_13_92, s_13_95, s_13_96, s_13_99, s_13_102, s_13_103, s_13_106, s_13_109, s_13_110, s_13_111, s_13_112, s_13_116, s_13_117, true_and, and_true, sc0, sc1, sc2, sc3, sc4, Option.toList, List.cons_append, List.nil_append, clr, ne_eq, not_false_eq_true, not_true_eq_false, false_and, and_false, true_or, or_true, or_false, false_or, forall_const, Nat.reduceEqDiff, List.length_nil, List.length_cons, Nat.zero_le, Nat.reduceAdd, Nat.reduceLeDiff, false_implies, true_implies, Int.reduceEq, Int.reduceNe, Int.reduceLT, Int.reduceLE, Int.reduceNeg, Int.reduceToNat, Int.toNat_natCast, Nat.reduceLT, and_self, Decidable.not_not, kC_0, kC_1, kC_2, kC_3, kC_4, kC_5, kC_6, kC_7, kC_8, kC_9, kC_10, kC_11, kC_12, kC_13, kC_14, kC_15, kC_16, kC_17, kC_18, kC_19, kC_20, kC_21, kC_22, kC_23, kC_24, kC_25, kC_26, kC_27, kC_28, kC_29, kC_30, kC_31, kC_32, kC_145, kC_146, kC_147, kC_148, kC_149, kC_150, kC_151, kC_164, kC_165, kC_166, kC_167, kC_168, kC_169, kC_170, kC_171, kC_172, kC_173, kC_174, kC_175, kC_176, kC_177, kC_178, kC_179, kC_180, kC_181, kC_182, kC_183, kC_184, pC_1_0, pC_1_2, pC_1_3, pC_1_4, pC_1_5, pC_1_6, pC_1_7, pC_1_8, pC_1_9, pC_1_10, pC_1_11, pC_3_5, pC_5_0, pC_5_1, pC_5_2, pC_5_6, pC_5_7, pC_5_8, pC_5_9, pC_5_10, pC_13_0, pC_13_1, pC_13_2, pC_13_6, pC_13_7, pC_13_8, pC_13_9, pC_13_10, pC_21_0, pC_21_1, pC_21_2, pC_21_6, pC_21_7, pC_21_8, pC_21_9, pC_21_10, pC_29_0, pC_29_1, pC_29_2, pC_145_0, pC_145_1, pC_145_2, pC_145_3, pC_145_4, pC_149_0, pC_149_1, pC_149_2, pC_164_1, pC_164_2, pC_164_3, pC_168_0, pC_168_3, pC_168_4, pC_168_5, pC_172_0, pC_175_0, pC_175_2, pC_175_3, pC_175_5, pC_180_0, pC_180_2, pC_180_3, pC_180_5]
        have hr := yRun_none hi hres
        rw [hr] at a1
        refine hQ _ _ _ ⟨rfl, hsM, fun w hw => ?_, fun V hV => ?_⟩
        · rcases tb w hw with z | ⟨_, s', z, _⟩
          · rw [← a1] at z
            obtain rfl := Sum.inl.inj z
            rfl
          · rw [← a1] at z; cases z
        · obtain ⟨_, s', z, _⟩ := tg9 V hV
          rw [← a1] at z; cases z
      | some s' =>
        obtain ⟨t5, t6⟩ := t3 s' rfl
        refine ⟨1, t5, t1, ?_⟩
        simp only [s_13_0, s_13_1, s_13_3, s_13_6, s_13_7, s_13_8, s_13_9, s_13_12, s_13_13, s_13_14, s_13_17, s_13_18, s_13_19, s_13_22, s_13_23, s_13_26, s_13_27, s_13_28, s_13_29, s_13_30, s_13_31, s_13_34, s_13_35, s_13_36, s_13_39, s_13_40, s_13_44, s_13_45, s_13_48, s_13_49, s_13_52, s_13_55, s_13_56, s_13_57, s_13_59, s_13_63, s_13_66, s_13_67, s_13_68, s_13_70, s_13_74, s_13_76, s_13_78, s_13_81, s_13_83, s_13_84, s_13_87, s_13_90, s_13_91, s_13_92, s_13_95, s_13_96, s_13_99, s_13_102, s_13_103, s_13_106, s_13_109, s_13_110, s_13_111, s_13_112, s_13_116, s_13_117, true_and, and_true, sc0, sc1, sc2, sc3, sc4, Option.toList, List.cons_append, List.nil_append, clr, ne_eq, not_false_eq_true, not_true_eq_false, false_and, and_false, true_or, or_true, or_false, false_or, forall_const, Nat.reduceEqDiff, List.length_nil, List.length_cons, Nat.zero_le, Nat.reduceAdd, Nat.reduceLeDiff, false_implies, true_implies, Int.reduceEq, Int.reduceNe, Int.reduceLT, Int.reduceLE, Int.reduceNeg, Int.reduceToNat, Int.toNat_natCast, Nat.reduceLT, and_self, Decidable.not_not, kC_0, kC_1, kC_2, kC_3, kC_4, kC_5, kC_6, kC_7, kC_8, kC_9, kC_10, kC_11, kC_12, kC_13, kC_14, kC_15, kC_16, kC_17, kC_18, kC_19, kC_20, kC_21, kC_22, kC_23, kC_24, kC_25, kC_26, kC_27, kC_28, kC_29, kC_30, kC_31, kC_32, kC_145, kC_146, kC_147, kC_148, kC_149, kC_150, kC_151, kC_164, kC_165, kC_166, kC_167, kC_168, kC_169, kC_170, kC_171, kC_172, kC_173, kC_174, kC_175, kC_176, kC_177, kC_178, kC_179, kC_180, kC_181, kC_182, kC_183, kC_184, pC_1_0, pC_1_2, pC_1_3, pC_1_4, pC_1_5, pC_1_6, pC_1_7, pC_1_8, pC_1_9, pC_1_10, pC_1_11, pC_3_5, pC_5_0, pC_5_1, pC_5_2, pC_5_6, pC_5_7, pC_5_8, pC_5_9, pC_5_10, pC_13_0, pC_13_1, pC_13_2, pC_13_6, pC_13_7, pC_13_8, pC_13_9, pC_13_10, pC_21_0, pC_21_1, pC_21_2, pC_21_6, pC_21_7, pC_21_8, pC_21_9, pC_21_10, pC_29_0, pC_29_1, pC_29_2, pC_145_0, pC_145_1, pC_145_2, pC_145_3, pC_145_4, pC_149_0, pC_149_1, pC_149_2, pC_164_1, pC_164_2, pC_164_3, pC_168_0, pC_168_3, pC_168_4, pC_168_5, pC_172_0, pC_175_0, pC_175_2, pC_175_3, pC_175_5, pC_180_0, pC_180_2, pC_180_3, pC_180_5, (EqW_o en)]
        obtain ⟨w1, w2⟩ := yTake_ok hTi.2 a3 hres
        exact ih (s', M', _) ⟨by rw [← a1]; exact (yRun_some hi hres).symm, t6, w1, by dsimp only; omega, hsM⟩
    rw [s_13_42]
    cases hw : s.2.2.2.2.2 with
    | true =>
      rw [hw] at y8
      simp only [if_true] at y8
      obtain ⟨v, P', M', hE, hT9⟩ := c_takeThing (b := b) (M := N) hq a2 a3 hw (by omega) hTi.2 d (by omega)
      have ht : yTake s (T i) = yThing s (T i) := by unfold yTake; rw [if_pos hw]
      obtain ⟨x, rfl, rfl, hfin⟩ := fin v P' M' _ ht hT9
      simp only [s_13_0, s_13_1, s_13_3, s_13_6, s_13_7, s_13_8, s_13_9, s_13_12, s_13_13, s_13_14, s_13_17, s_13_18, s_13_19, s_13_22, s_13_23, s_13_26, s_13_27, s_13_28, s_13_29, s_13_30, s_13_31, s_13_34, s_13_35, s_13_36, s_13_39, s_13_40, s_13_44, s_13_45, s_13_48, s_13_49, s_13_52, s_13_55, s_13_56, s_13_57, s_13_59, s_13_63, s_13_66, s_13_67, s_13_68, s_13_70, s_13_76, s_13_78, s_13_81, s_13_83, s_13_84, s_13_87, s_13_90, s_13_91, s_13_92, s_13_95, s_13_96, s_13_99, s_13_102, s_13_103, s_13_106, s_13_109, s_13_110, s_13_111, s_13_112, s_13_116, s_13_117, true_and, and_true, sc0, sc1, sc2, sc3, sc4, Option.toList, List.cons_append, List.nil_append, clr, ne_eq, not_false_eq_true, not_true_eq_false, false_and, and_false, true_or, or_true, or_false, false_or, forall_const, Nat.reduceEqDiff, List.length_nil, List.length_cons, Nat.zero_le, Nat.reduceAdd, Nat.reduceLeDiff, false_implies, true_implies, Int.reduceEq, Int.reduceNe, Int.reduceLT, Int.reduceLE, Int.reduceNeg, Int.reduceToNat, Int.toNat_natCast, Nat.reduceLT, and_self, Decidable.not_not, kC_0, kC_1, kC_2, kC_3, kC_4, kC_5, kC_6, kC_7, kC_8, kC_9, kC_10, kC_11, kC_12, kC_13, kC_14, kC_15, kC_16, kC_17, kC_18, kC_19, kC_20, kC_21, kC_22, kC_23, kC_24, kC_25, kC_26, kC_27, kC_28, kC_29, kC_30, kC_31, kC_32, kC_145, kC_146, kC_147, kC_148, kC_149, kC_150, kC_151, kC_164, kC_165, kC_166, kC_167, kC_168, kC_169, kC_170, kC_171, kC_172, kC_173, kC_174, kC_175, kC_176, kC_177, kC_178, kC_179, kC_180, kC_181, kC_182, kC_183, kC_184, pC_1_0, pC_1_2, pC_1_3, pC_1_4, pC_1_5, pC_1_6, pC_1_7, pC_1_8, pC_1_9, pC_1_10, pC_1_11, pC_3_5, pC_5_0, pC_5_1, pC_5_2, pC_5_6, pC_5_7, pC_5_8, pC_5_9, pC_5_10, pC_13_0, pC_13_1, pC_13_2, pC_13_6, pC_13_7, pC_13_8, pC_13_9, pC_13_10, pC_21_0, pC_21_1, pC_21_2, pC_21_6, pC_21_7, pC_21_8, pC_21_9, pC_21_10, pC_29_0, pC_29_1, pC_29_2, pC_145_0, pC_145_1, pC_145_2, pC_145_3, pC_145_4, pC_149_0, pC_149_1, pC_149_2, pC_164_1, pC_164_2, pC_164_3, pC_168_0, pC_168_3, pC_168_4, pC_168_5, pC_172_0, pC_175_0, pC_175_2, pC_175_3, pC_175_5, pC_180_0, pC_180_2, pC_180_3, pC_180_5, e0, ru_k hq, y8, hks.1, hks.2, b0, b1, eN]
      refine s_13_60 (Nat.le_of_ble_eq_true rfl) (ru_k hq) hE ?_
      simp only [s_13_0, s_13_1, s_13_3, s_13_6, s_13_7, s_13_8, s_13_9, s_13_12, s_13_13, s_13_14, s_13_17, s_13_18, s_13_19, s_13_22, s_13_23, s_13_26, s_13_27, s_13_28, s_13_29, s_13_30, s_13_31, s_13_34, s_13_35, s_13_36, s_13_39, s_13_40, s_13_44, s_13_45, s_13_48, s_13_49, s_13_52, s_13_55, s_13_56, s_13_57, s_13_59, s_13_63, s_13_66, s_13_67, s_13_68, s_13_70, s_13_76, s_13_78, s_13_81, s_13_83, s_13_84, s_13_87, s_13_90, s_13_91, s_13_92, s_13_95, s_13_96, s_13_99, s_13_102, s_13_103, s_13_106, s_13_109, s_13_110, s_13_111, s_13_112, s_13_116, s_13_117, true_and, and_true, sc0, sc1, sc2, sc3, sc4, Option.toList, List.cons_append, List.nil_append, clr, ne_eq, not_false_eq_true, not_true_eq_false, false_and, and_false, true_or, or_true, or_false, false_or, forall_const, Nat.reduceEqDiff, List.length_nil, List.length_cons, Nat.zero_le, Nat.reduceAdd, Nat.reduceLeDiff, false_implies, true_implies, Int.reduceEq, Int.reduceNe, Int.reduceLT, Int.reduceLE, Int.reduceNeg, Int.reduceToNat, Int.toNat_natCast, Nat.reduceLT, and_self, Decidable.not_not, kC_0, kC_1, kC_2, kC_3, kC_4, kC_5, kC_6, kC_7, kC_8, kC_9, kC_10, kC_11, kC_12, kC_13, kC_14, kC_15, kC_16, kC_17, kC_18, kC_19, kC_20, kC_21, kC_22, kC_23, kC_24, kC_25, kC_26, kC_27, kC_28, kC_29, kC_30, kC_31, kC_32, kC_145, kC_146, kC_147, kC_148, kC_149, kC_150, kC_151, kC_164, kC_165, kC_166, kC_167, kC_168, kC_169, kC_170, kC_171, kC_172, kC_173, kC_174, kC_175, kC_176, kC_177, kC_178, kC_179, kC_180, kC_181, kC_182, kC_183, kC_184, pC_1_0, pC_1_2, pC_1_3, pC_1_4, pC_1_5, pC_1_6, pC_1_7, pC_1_8, pC_1_9, pC_1_10, pC_1_11, pC_3_5, pC_5_0, pC_5_1, pC_5_2, pC_5_6, pC_5_7, pC_5_8, pC_5_9, pC_5_10, pC_13_0, pC_13_1, pC_13_2, pC_13_6, pC_13_7, pC_13_8, pC_13_9, pC_13_10, pC_21_0, pC_21_1, pC_21_2, pC_21_6, pC_21_7, pC_21_8, pC_21_9, pC_21_10, pC_29_0, pC_29_1, pC_29_2, pC_145_0, pC_145_1, pC_145_2, pC_145_3, pC_145_4, pC_149_0, pC_149_1, pC_149_2, pC_164_1, pC_164_2, pC_164_3, pC_168_0, pC_168_3, pC_168_4, pC_168_5, pC_172_0, pC_175_0, pC_175_2, pC_175_3, pC_175_5, pC_180_0, pC_180_2, pC_180_3, pC_180_5]
      exact hfin
    | false =>
      rw [hw] at y8
      simp only [Bool.false_eq_true, if_false] at y8
      obtain ⟨v, P', M', hE, hT9⟩ := c_takeBehind (b := b) (M := N) hq a2 a3 hw (by omega) hTi.2 d (by omega)
      have ht : yTake s (T i) = yBehind s (T i) := by unfold yTake; rw [if_neg (by rw [hw]; decide)]
      obtain ⟨x, rfl, rfl, hfin⟩ := fin v P' M' _ ht hT9
      simp only [s_13_0, s_13_1, s_13_3, s_13_6, s_13_7, s_13_8, s_13_9, s_13_12, s_13_13, s_13_14, s_13_17, s_13_18, s_13_19, s_13_22, s_13_23, s_13_26, s_13_27, s_13_28, s_13_29, s_13_30, s_13_31, s_13_34, s_13_35, s_13_36, s_13_39, s_13_40, s_13_44, s_13_45, s_13_48, s_13_49, s_13_52, s_13_55, s_13_56, s_13_57, s_13_59, s_13_63, s_13_66, s_13_67, s_13_68, s_13_70, s_13_76, s_13_78, s_13_81, s_13_83, s_13_84, s_13_87, s_13_90, s_13_91, s_13_92, s_13_95, s_13_96, s_13_99, s_13_102, s_13_103, s_13_106, s_13_109, s_13_110, s_13_111, s_13_112, s_13_116, s_13_117, true_and, and_true, sc0, sc1, sc2, sc3, sc4, Option.toList, List.cons_append, List.nil_append, clr, ne_eq, not_false_eq_true, not_true_eq_false, false_and, and_false, true_or, or_true, or_false, false_or, forall_const, Nat.reduceEqDiff, List.length_nil, List.length_cons, Nat.zero_le, Nat.reduceAdd, Nat.reduceLeDiff, false_implies, true_implies, Int.reduceEq, Int.reduceNe, Int.reduceLT, Int.reduceLE, Int.reduceNeg, Int.reduceToNat, Int.toNat_natCast, Nat.reduceLT, and_self, Decidable.not_not, kC_0, kC_1, kC_2, kC_3, kC_4, kC_5, kC_6, kC_7, kC_8, kC_9, kC_10, kC_11, kC_12, kC_13, kC_14, kC_15, kC_16, kC_17, kC_18, kC_19, kC_20, kC_21, kC_22, kC_23, kC_24, kC_25, kC_26, kC_27, kC_28, kC_29, kC_30, kC_31, kC_32, kC_145, kC_146, kC_147, kC_148, kC_149, kC_150, kC_151, kC_164, kC_165, kC_166, kC_167, kC_168, kC_169, kC_170, kC_171, kC_172, kC_173, kC_174, kC_175, kC_176, kC_177, kC_178, kC_179, kC_180, kC_181, kC_182, kC_183, kC_184, pC_1_0, pC_1_2, pC_1_3, pC_1_4, pC_1_5, pC_1_6, pC_1_7, pC_1_8, pC_1_9, pC_1_10, pC_1_11, pC_3_5, pC_5_0, pC_5_1, pC_5_2, pC_5_6, pC_5_7, pC_5_8, pC_5_9, pC_5_10, pC_13_0, pC_13_1, pC_13_2, pC_13_6, pC_13_7, pC_13_8, pC_13_9, pC_13_10, pC_21_0, pC_21_1, pC_21_2, pC_21_6, pC_21_7, pC_21_8, pC_21_9, pC_21_10, pC_29_0, pC_29_1, pC_29_2, pC_145_0, pC_145_1, pC_145_2, pC_145_3, pC_145_4, pC_149_0, pC_149_1, pC_149_2, pC_164_1, pC_164_2, pC_164_3, pC_168_0, pC_168_3, pC_168_4, pC_168_5, pC_172_0, pC_175_0, pC_175_2, pC_175_3, pC_175_5, pC_180_0, pC_180_2, pC_180_3, pC_180_5, e0, ru_k hq, y8, hks.1, hks.2, b0, b1, eN]
      refine s_13_71 (Nat.le_of_ble_eq_true rfl) (ru_k hq) hE ?_
      simp only [s_13_0, s_13_1, s_13_3, s_13_6, s_13_7, s_13_8, s_13_9, s_13_12, s_13_13, s_13_14, s_13_17, s_13_18, s_13_19, s_13_22, s_13_23, s_13_26, s_13_27, s_13_28, s_13_29, s_13_30, s_13_31, s_13_34, s_13_35, s_13_36, s_13_39, s_13_40, s_13_44, s_13_45, s_13_48, s_13_49, s_13_52, s_13_55, s_13_56, s_13_57, s_13_59, s_13_63, s_13_66, s_13_67, s_13_68, s_13_70, s_13_76, s_13_78, s_13_81, s_13_83, s_13_84, s_13_87, s_13_90, s_13_91, s_13_92, s_13_95, s_13_96, s_13_99, s_13_102, s_13_103, s_13_106, s_13_109, s_13_110, s_13_111, s_13_112, s_13_116, s_13_117, true_and, and_true, sc0, sc1, sc2, sc3, sc4, Option.toList, List.cons_append, List.nil_append, clr, ne_eq, not_false_eq_true, not_true_eq_false, false_and, and_false, true_or, or_true, or_false, false_or, forall_const, Nat.reduceEqDiff, List.length_nil, List.length_cons, Nat.zero_le, Nat.reduceAdd, Nat.reduceLeDiff, false_implies, true_implies, Int.reduceEq, Int.reduceNe, Int.reduceLT, Int.reduceLE, Int.reduceNeg, Int.reduceToNat, Int.toNat_natCast, Nat.reduceLT, and_self, Decidable.not_not, kC_0, kC_1, kC_2, kC_3, kC_4, kC_5, kC_6, kC_7, kC_8, kC_9, kC_10, kC_11, kC_12, kC_13, kC_14, kC_15, kC_16, kC_17, kC_18, kC_19, kC_20, kC_21, kC_22, kC_23, kC_24, kC_25, kC_26, kC_27, kC_28, kC_29, kC_30, kC_31, kC_32, kC_145, kC_146, kC_147, kC_148, kC_149, kC_150, kC_151, kC_164, kC_165, kC_166, kC_167, kC_168, kC_169, kC_170, kC_171, kC_172, kC_173, kC_174, kC_175, kC_176, kC_177, kC_178, kC_179, kC_180, kC_181, kC_182, kC_183, kC_184, pC_1_0, pC_1_2, pC_1_3, pC_1_4, pC_1_5, pC_1_6, pC_1_7, pC_1_8, pC_1_9, pC_1_10, pC_1_11, pC_3_5, pC_5_0, pC_5_1, pC_5_2, pC_5_6, pC_5_7, pC_5_8, pC_5_9, pC_5_10, pC_13_0, pC_13_1, pC_13_2, pC_13_6, pC_13_7, pC_13_8, pC_13_9, pC_13_10, pC_21_0, pC_21_1, pC_21_2, pC_21_6, pC_21_7, pC_21_8, pC_21_9, pC_21_10, pC_29_0, pC_29_1, pC_29_2, pC_145_0, pC_145_1, pC_145_2, pC_145_3, pC_145_4, pC_149_0, pC_149_1, pC_149_2, pC_164_1, pC_164_2, pC_164_3, pC_168_0, pC_168_3, pC_168_4, pC_168_5, pC_172_0, pC_175_0, pC_175_2, pC_175_3, pC_175_5, pC_180_0, pC_180_2, pC_180_3, pC_180_5]
      exact hfin
def plT : Nat → Int := fun j => ([114, 42, 40, 49, 45, 111, 41, 42, 40, 49, 43, 107, 41] : List Int).getD j 0
theorem plain_gr : gRead plT 13 = Sum.inr plainV := by rfl
theorem c_readPlain (hq : ruQ q) (hP : ∀ j, j < 13 → M 0 j = plT j) : Cw 5 12 [pR q] LC (PC b) M (fun v P' M' => v = none ∧ P' = PC b ∧ same M' M [q, q + 1, q + 3, q + 4] ∧ RuV M' q plainV) := by
  refine Cw_k [some (pR q)] (Nat.le_of_ble_eq_true rfl) rfl (fun d hd Q X hQ => ?_)
  have hT : ∀ j, j < 13 → M 0 j = plT j ∧ 0 ≤ plT j ∧ plT j < 256 := by
    intro j hj
    have : ∀ j, j < 13 → 0 ≤ plT j ∧ plT j < 256 := by decide
    exact ⟨hP j hj, this j hj⟩
  obtain ⟨v, P', M', hE, rfl, h2, h3, h4⟩ := c_read (b := b) (sg := 0) (ln := 13) (sz := 13) hq (Or.inr ⟨rfl, rfl⟩) (by decide) (by decide) (by decide) (by decide) hT d (by omega)
  obtain ⟨rfl, hR⟩ := h4 _ plain_gr
  simp only [s_12_0, s_12_1, s_12_4, s_12_7, s_12_11, s_12_11R, s_12_12, true_and, and_true, sc0, sc1, sc2, sc3, sc4, Option.toList, List.cons_append, List.nil_append, clr, ne_eq, not_false_eq_true, not_true_eq_false, false_and, and_false, true_or, or_true, or_false, false_or, forall_const, Nat.reduceEqDiff, List.length_nil, List.length_cons, Nat.zero_le, Nat.reduceAdd, Nat.reduceLeDiff, false_implies, true_implies, Int.reduceEq, Int.reduceNe, Int.reduceLT, Int.reduceLE, Int.reduceNeg, Int.reduceToNat, Int.toNat_natCast, Nat.reduceLT, and_self, Decidable.not_not, kC_0, kC_1, kC_2, kC_3, kC_4, kC_5, kC_6, kC_7, kC_8, kC_9, kC_10, kC_11, kC_12, kC_13, kC_14, kC_15, kC_16, kC_17, kC_18, kC_19, kC_20, kC_21, kC_22, kC_23, kC_24, kC_25, kC_26, kC_27, kC_28, kC_29, kC_30, kC_31, kC_32, kC_145, kC_146, kC_147, kC_148, kC_149, kC_150, kC_151, kC_164, kC_165, kC_166, kC_167, kC_168, kC_169, kC_170, kC_171, kC_172, kC_173, kC_174, kC_175, kC_176, kC_177, kC_178, kC_179, kC_180, kC_181, kC_182, kC_183, kC_184, pC_1_0, pC_1_2, pC_1_3, pC_1_4, pC_1_5, pC_1_6, pC_1_7, pC_1_8, pC_1_9, pC_1_10, pC_1_11, pC_3_5, pC_5_0, pC_5_1, pC_5_2, pC_5_6, pC_5_7, pC_5_8, pC_5_9, pC_5_10, pC_13_0, pC_13_1, pC_13_2, pC_13_6, pC_13_7, pC_13_8, pC_13_9, pC_13_10, pC_21_0, pC_21_1, pC_21_2, pC_21_6, pC_21_7, pC_21_8, pC_21_9, pC_21_10, pC_29_0, pC_29_1, pC_29_2, pC_145_0, pC_145_1, pC_145_2, pC_145_3, pC_145_4, pC_149_0, pC_149_1, pC_149_2, pC_164_1, pC_164_2, pC_164_3, pC_168_0, pC_168_3, pC_168_4, pC_168_5, pC_172_0, pC_175_0, pC_175_2, pC_175_3, pC_175_5, pC_180_0, pC_180_2, pC_180_3, pC_180_5]
  refine s_12_8 (Nat.le_of_ble_eq_true rfl) (ru_k hq) hE ?_
  simp only [s_12_0, s_12_1, s_12_4, s_12_7, s_12_11, s_12_11R, s_12_12, true_and, and_true, sc0, sc1, sc2, sc3, sc4, Option.toList, List.cons_append, List.nil_append, clr, ne_eq, not_false_eq_true, not_true_eq_false, false_and, and_false, true_or, or_true, or_false, false_or, forall_const, Nat.reduceEqDiff, List.length_nil, List.length_cons, Nat.zero_le, Nat.reduceAdd, Nat.reduceLeDiff, false_implies, true_implies, Int.reduceEq, Int.reduceNe, Int.reduceLT, Int.reduceLE, Int.reduceNeg, Int.reduceToNat, Int.toNat_natCast, Nat.reduceLT, and_self, Decidable.not_not, kC_0, kC_1, kC_2, kC_3, kC_4, kC_5, kC_6, kC_7, kC_8, kC_9, kC_10, kC_11, kC_12, kC_13, kC_14, kC_15, kC_16, kC_17, kC_18, kC_19, kC_20, kC_21, kC_22, kC_23, kC_24, kC_25, kC_26, kC_27, kC_28, kC_29, kC_30, kC_31, kC_32, kC_145, kC_146, kC_147, kC_148, kC_149, kC_150, kC_151, kC_164, kC_165, kC_166, kC_167, kC_168, kC_169, kC_170, kC_171, kC_172, kC_173, kC_174, kC_175, kC_176, kC_177, kC_178, kC_179, kC_180, kC_181, kC_182, kC_183, kC_184, pC_1_0, pC_1_2, pC_1_3, pC_1_4, pC_1_5, pC_1_6, pC_1_7, pC_1_8, pC_1_9, pC_1_10, pC_1_11, pC_3_5, pC_5_0, pC_5_1, pC_5_2, pC_5_6, pC_5_7, pC_5_8, pC_5_9, pC_5_10, pC_13_0, pC_13_1, pC_13_2, pC_13_6, pC_13_7, pC_13_8, pC_13_9, pC_13_10, pC_21_0, pC_21_1, pC_21_2, pC_21_6, pC_21_7, pC_21_8, pC_21_9, pC_21_10, pC_29_0, pC_29_1, pC_29_2, pC_145_0, pC_145_1, pC_145_2, pC_145_3, pC_145_4, pC_149_0, pC_149_1, pC_149_2, pC_164_1, pC_164_2, pC_164_3, pC_168_0, pC_168_3, pC_168_4, pC_168_5, pC_172_0, pC_175_0, pC_175_2, pC_175_3, pC_175_5, pC_180_0, pC_180_2, pC_180_3, pC_180_5]
  exact hQ _ _ _ ⟨rfl, rfl, h2, hR⟩
/-- the text that was typed -/
def TxC (M : MM) (T : Nat → Int) (ln : Nat) : Prop := M 1 1 = (ln : Int) ∧ ln ≤ 80 ∧ ∀ j, j < 80 → M 2 j = T j ∧ 0 ≤ T j ∧ T j < 256
theorem c_readSpare {ln : Nat} (hX : TxC M T ln) (hP : ∀ j, j < 13 → M 0 j = plT j) : Cw 6 39 [pR 1] LC (PC b) M (fun v P' M' => P' = PC b ∧ same M' (uM M 1 1 0) [qr (!b), qr (!b) + 1, qr (!b) + 3, qr (!b) + 4] ∧ (∀ w, gRead T ln = Sum.inl w → v = some (pI (w : Int))) ∧ (∀ V, gRead T ln = Sum.inr V → v = some (pI (-1)) ∧ RuV M' (qr (!b)) V)) := by
  refine Cw_k [some (pR 1), none] (Nat.le_of_ble_eq_true rfl) rfl (fun d hd Q X hQ => ?_)
  obtain ⟨x1, x2, x3⟩ := hX
  have hem := c_emptyText (b := b) (M := M)
  rw [x1] at hem
  have hne := qr_0 (b := !b)
  simp only [s_39_0, s_39_4, s_39_5, s_39_6, s_39_9, s_39_10, s_39_16, s_39_17, s_39_18, s_39_19, s_39_22, s_39_23, s_39_26, s_39_30, true_and, and_true, sc0, sc1, sc2, sc3, sc4, Option.toList, List.cons_append, List.nil_append, clr, ne_eq, not_false_eq_true, not_true_eq_false, false_and, and_false, true_or, or_true, or_false, false_or, forall_const, Nat.reduceEqDiff, List.length_nil, List.length_cons, Nat.zero_le, Nat.reduceAdd, Nat.reduceLeDiff, false_implies, true_implies, Int.reduceEq, Int.reduceNe, Int.reduceLT, Int.reduceLE, Int.reduceNeg, Int.reduceToNat, Int.toNat_natCast, Nat.reduceLT, and_self, Decidable.not_not, kC_0, kC_1, kC_2, kC_3, kC_4, kC_5, kC_6, kC_7, kC_8, kC_9, kC_10, kC_11, kC_12, kC_13, kC_14, kC_15, kC_16, kC_17, kC_18, kC_19, kC_20, kC_21, kC_22, kC_23, kC_24, kC_25, kC_26, kC_27, kC_28, kC_29, kC_30, kC_31, kC_32, kC_145, kC_146, kC_147, kC_148, kC_149, kC_150, kC_151, kC_164, kC_165, kC_166, kC_167, kC_168, kC_169, kC_170, kC_171, kC_172, kC_173, kC_174, kC_175, kC_176, kC_177, kC_178, kC_179, kC_180, kC_181, kC_182, kC_183, kC_184, pC_1_0, pC_1_2, pC_1_3, pC_1_4, pC_1_5, pC_1_6, pC_1_7, pC_1_8, pC_1_9, pC_1_10, pC_1_11, pC_3_5, pC_5_0, pC_5_1, pC_5_2, pC_5_6, pC_5_7, pC_5_8, pC_5_9, pC_5_10, pC_13_0, pC_13_1, pC_13_2, pC_13_6, pC_13_7, pC_13_8, pC_13_9, pC_13_10, pC_21_0, pC_21_1, pC_21_2, pC_21_6, pC_21_7, pC_21_8, pC_21_9, pC_21_10, pC_29_0, pC_29_1, pC_29_2, pC_145_0, pC_145_1, pC_145_2, pC_145_3, pC_145_4, pC_149_0, pC_149_1, pC_149_2, pC_164_1, pC_164_2, pC_164_3, pC_168_0, pC_168_3, pC_168_4, pC_168_5, pC_172_0, pC_175_0, pC_175_2, pC_175_3, pC_175_5, pC_180_0, pC_180_2, pC_180_3, pC_180_5]
  refine s_39_1 (Nat.le_of_ble_eq_true rfl) kC_1 (hem d (by omega)) ?_
  by_cases c1 : ln = 0
  · have e : (ln : Int) = 0 := by omega
    obtain ⟨v, P', M', hE, rfl, rfl, h2, h3⟩ := c_readPlain (b := b) (M := uM M 1 1 0) (q := qr (!b)) qr_q (fun j hj => by rw [uM_ne (by decide)]; exact hP j hj) d (by omega)
    simp only [s_39_0, s_39_4, s_39_5, s_39_6, s_39_9, s_39_10, s_39_16, s_39_17, s_39_18, s_39_19, s_39_22, s_39_23, s_39_26, s_39_30, true_and, and_true, sc0, sc1, sc2, sc3, sc4, Option.toList, List.cons_append, List.nil_append, clr, ne_eq, not_false_eq_true, not_true_eq_false, false_and, and_false, true_or, or_true, or_false, false_or, forall_const, Nat.reduceEqDiff, List.length_nil, List.length_cons, Nat.zero_le, Nat.reduceAdd, Nat.reduceLeDiff, false_implies, true_implies, Int.reduceEq, Int.reduceNe, Int.reduceLT, Int.reduceLE, Int.reduceNeg, Int.reduceToNat, Int.toNat_natCast, Nat.reduceLT, and_self, Decidable.not_not, kC_0, kC_1, kC_2, kC_3, kC_4, kC_5, kC_6, kC_7, kC_8, kC_9, kC_10, kC_11, kC_12, kC_13, kC_14, kC_15, kC_16, kC_17, kC_18, kC_19, kC_20, kC_21, kC_22, kC_23, kC_24, kC_25, kC_26, kC_27, kC_28, kC_29, kC_30, kC_31, kC_32, kC_145, kC_146, kC_147, kC_148, kC_149, kC_150, kC_151, kC_164, kC_165, kC_166, kC_167, kC_168, kC_169, kC_170, kC_171, kC_172, kC_173, kC_174, kC_175, kC_176, kC_177, kC_178, kC_179, kC_180, kC_181, kC_182, kC_183, kC_184, pC_1_0, pC_1_2, pC_1_3, pC_1_4, pC_1_5, pC_1_6, pC_1_7, pC_1_8, pC_1_9, pC_1_10, pC_1_11, pC_3_5, pC_5_0, pC_5_1, pC_5_2, pC_5_6, pC_5_7, pC_5_8, pC_5_9, pC_5_10, pC_13_0, pC_13_1, pC_13_2, pC_13_6, pC_13_7, pC_13_8, pC_13_9, pC_13_10, pC_21_0, pC_21_1, pC_21_2, pC_21_6, pC_21_7, pC_21_8, pC_21_9, pC_21_10, pC_29_0, pC_29_1, pC_29_2, pC_145_0, pC_145_1, pC_145_2, pC_145_3, pC_145_4, pC_149_0, pC_149_1, pC_149_2, pC_164_1, pC_164_2, pC_164_3, pC_168_0, pC_168_3, pC_168_4, pC_168_5, pC_172_0, pC_175_0, pC_175_2, pC_175_3, pC_175_5, pC_180_0, pC_180_2, pC_180_3, pC_180_5, e, qr_s, hne]
    refine s_39_13 (Nat.le_of_ble_eq_true rfl) (ru_k qr_q) hE ?_
    simp only [s_39_0, s_39_4, s_39_5, s_39_6, s_39_9, s_39_10, s_39_16, s_39_17, s_39_18, s_39_19, s_39_22, s_39_23, s_39_26, s_39_30, true_and, and_true, sc0, sc1, sc2, sc3, sc4, Option.toList, List.cons_append, List.nil_append, clr, ne_eq, not_false_eq_true, not_true_eq_false, false_and, and_false, true_or, or_true, or_false, false_or, forall_const, Nat.reduceEqDiff, List.length_nil, List.length_cons, Nat.zero_le, Nat.reduceAdd, Nat.reduceLeDiff, false_implies, true_implies, Int.reduceEq, Int.reduceNe, Int.reduceLT, Int.reduceLE, Int.reduceNeg, Int.reduceToNat, Int.toNat_natCast, Nat.reduceLT, and_self, Decidable.not_not, kC_0, kC_1, kC_2, kC_3, kC_4, kC_5, kC_6, kC_7, kC_8, kC_9, kC_10, kC_11, kC_12, kC_13, kC_14, kC_15, kC_16, kC_17, kC_18, kC_19, kC_20, kC_21, kC_22, kC_23, kC_24, kC_25, kC_26, kC_27, kC_28, kC_29, kC_30, kC_31, kC_32, kC_145, kC_146, kC_147, kC_148, kC_149, kC_150, kC_151, kC_164, kC_165, kC_166, kC_167, kC_168, kC_169, kC_170, kC_171, kC_172, kC_173, kC_174, kC_175, kC_176, kC_177, kC_178, kC_179, kC_180, kC_181, kC_182, kC_183, kC_184, pC_1_0, pC_1_2, pC_1_3, pC_1_4, pC_1_5, pC_1_6, pC_1_7, pC_1_8, pC_1_9, pC_1_10, pC_1_11, pC_3_5, pC_5_0, pC_5_1, pC_5_2, pC_5_6, pC_5_7, pC_5_8, pC_5_9, pC_5_10, pC_13_0, pC_13_1, pC_13_2, pC_13_6, pC_13_7, pC_13_8, pC_13_9, pC_13_10, pC_21_0, pC_21_1, pC_21_2, pC_21_6, pC_21_7, pC_21_8, pC_21_9, pC_21_10, pC_29_0, pC_29_1, pC_29_2, pC_145_0, pC_145_1, pC_145_2, pC_145_3, pC_145_4, pC_149_0, pC_149_1, pC_149_2, pC_164_1, pC_164_2, pC_164_3, pC_168_0, pC_168_3, pC_168_4, pC_168_5, pC_172_0, pC_175_0, pC_175_2, pC_175_3, pC_175_5, pC_180_0, pC_180_2, pC_180_3, pC_180_5]
    have hg : gRead T ln = Sum.inr plainV := by unfold gRead; rw [if_pos c1]
    refine hQ _ _ _ ⟨rfl, h2, fun w hw => ?_, fun V hV => ?_⟩
    · rw [hg] at hw; cases hw
    · rw [hg] at hV
      obtain rfl := Sum.inr.inj hV
      exact ⟨rfl, h3⟩
  · have e : ¬ (ln : Int) = 0 := by omega
    obtain ⟨v, P', M', hE, rfl, h2, h3, h4⟩ := c_read (b := b) (M := uM M 1 1 0) (T := T) (q := qr (!b)) (sg := 2) (ln := ln) (sz := 80) qr_q (Or.inl rfl) (by decide) (by omega) x2 (by decide) (fun j hj => by rw [uM_ne (by decide)]; exact x3 j (by omega)) d (by omega)
    have hv : ∃ x : Int, v = some (pI x) := by
      cases hg : gRead T ln with
      | inl w => exact ⟨_, h3 w hg⟩
      | inr V => exact ⟨_, (h4 V hg).1⟩
    obtain ⟨x, rfl⟩ := hv
    simp only [s_39_0, s_39_4, s_39_5, s_39_6, s_39_9, s_39_10, s_39_16, s_39_17, s_39_18, s_39_19, s_39_22, s_39_23, s_39_26, s_39_30, true_and, and_true, sc0, sc1, sc2, sc3, sc4, Option.toList, List.cons_append, List.nil_append, clr, ne_eq, not_false_eq_true, not_true_eq_false, false_and, and_false, true_or, or_true, or_false, false_or, forall_const, Nat.reduceEqDiff, List.length_nil, List.length_cons, Nat.zero_le, Nat.reduceAdd, Nat.reduceLeDiff, false_implies, true_implies, Int.reduceEq, Int.reduceNe, Int.reduceLT, Int.reduceLE, Int.reduceNeg, Int.reduceToNat, Int.toNat_natCast, Nat.reduceLT, and_self, Decidable.not_not, kC_0, kC_1, kC_2, kC_3, kC_4, kC_5, kC_6, kC_7, kC_8, kC_9, kC_10, kC_11, kC_12, kC_13, kC_14, kC_15, kC_16, kC_17, kC_18, kC_19, kC_20, kC_21, kC_22, kC_23, kC_24, kC_25, kC_26, kC_27, kC_28, kC_29, kC_30, kC_31, kC_32, kC_145, kC_146, kC_147, kC_148, kC_149, kC_150, kC_151, kC_164, kC_165, kC_166, kC_167, kC_168, kC_169, kC_170, kC_171, kC_172, kC_173, kC_174, kC_175, kC_176, kC_177, kC_178, kC_179, kC_180, kC_181, kC_182, kC_183, kC_184, pC_1_0, pC_1_2, pC_1_3, pC_1_4, pC_1_5, pC_1_6, pC_1_7, pC_1_8, pC_1_9, pC_1_10, pC_1_11, pC_3_5, pC_5_0, pC_5_1, pC_5_2, pC_5_6, pC_5_7, pC_5_8, pC_5_9, pC_5_10, pC_13_0, pC_13_1, pC_13_2, pC_13_6, pC_13_7, pC_13_8, pC_13_9, pC_13_10, pC_21_0, pC_21_1, pC_21_2, pC_21_6, pC_21_7, pC_21_8, pC_21_9, pC_21_10, pC_29_0, pC_29_1, pC_29_2, pC_145_0, pC_145_1, pC_145_2, pC_145_3, pC_145_4, pC_149_0, pC_149_1, pC_149_2, pC_164_1, pC_164_2, pC_164_3, pC_168_0, pC_168_3, pC_168_4, pC_168_5, pC_172_0, pC_175_0, pC_175_2, pC_175_3, pC_175_5, pC_180_0, pC_180_2, pC_180_3, pC_180_5, e, qr_s, hne]
    refine s_39_27 (Nat.le_of_ble_eq_true rfl) (ru_k qr_q) hE ?_
    simp only [s_39_0, s_39_4, s_39_5, s_39_6, s_39_9, s_39_10, s_39_16, s_39_17, s_39_18, s_39_19, s_39_22, s_39_23, s_39_26, s_39_30, true_and, and_true, sc0, sc1, sc2, sc3, sc4, Option.toList, List.cons_append, List.nil_append, clr, ne_eq, not_false_eq_true, not_true_eq_false, false_and, and_false, true_or, or_true, or_false, false_or, forall_const, Nat.reduceEqDiff, List.length_nil, List.length_cons, Nat.zero_le, Nat.reduceAdd, Nat.reduceLeDiff, false_implies, true_implies, Int.reduceEq, Int.reduceNe, Int.reduceLT, Int.reduceLE, Int.reduceNeg, Int.reduceToNat, Int.toNat_natCast, Nat.reduceLT, and_self, Decidable.not_not, kC_0, kC_1, kC_2, kC_3, kC_4, kC_5, kC_6, kC_7, kC_8, kC_9, kC_10, kC_11, kC_12, kC_13, kC_14, kC_15, kC_16, kC_17, kC_18, kC_19, kC_20, kC_21, kC_22, kC_23, kC_24, kC_25, kC_26, kC_27, kC_28, kC_29, kC_30, kC_31, kC_32, kC_145, kC_146, kC_147, kC_148, kC_149, kC_150, kC_151, kC_164, kC_165, kC_166, kC_167, kC_168, kC_169, kC_170, kC_171, kC_172, kC_173, kC_174, kC_175, kC_176, kC_177, kC_178, kC_179, kC_180, kC_181, kC_182, kC_183, kC_184, pC_1_0, pC_1_2, pC_1_3, pC_1_4, pC_1_5, pC_1_6, pC_1_7, pC_1_8, pC_1_9, pC_1_10, pC_1_11, pC_3_5, pC_5_0, pC_5_1, pC_5_2, pC_5_6, pC_5_7, pC_5_8, pC_5_9, pC_5_10, pC_13_0, pC_13_1, pC_13_2, pC_13_6, pC_13_7, pC_13_8, pC_13_9, pC_13_10, pC_21_0, pC_21_1, pC_21_2, pC_21_6, pC_21_7, pC_21_8, pC_21_9, pC_21_10, pC_29_0, pC_29_1, pC_29_2, pC_145_0, pC_145_1, pC_145_2, pC_145_3, pC_145_4, pC_149_0, pC_149_1, pC_149_2, pC_164_1, pC_164_2, pC_164_3, pC_168_0, pC_168_3, pC_168_4, pC_168_5, pC_172_0, pC_175_0, pC_175_2, pC_175_3, pC_175_5, pC_180_0, pC_180_2, pC_180_3, pC_180_5]
    exact hQ _ _ _ ⟨rfl, h2, h3, h4⟩
theorem uP_sw : uP (uP (PC b) 1 12 (qr (!b))) 1 13 (qr b) = PC (!b) := by
  funext o k
  unfold uP PC qr
  by_cases h : o = 1
  · by_cases h2 : k = 13
    · cases b <;> simp [h, h2]
    · by_cases h3 : k = 12
      · cases b <;> simp [h, h3]
      · simp [h, h2, h3]
  · simp [h]
theorem yRun_lt {L w : Nat} : ∀ {k p : Nat} {s : YS}, yRun T L k p s = Sum.inl w → w < L
  | 0, p, s, h => by cases h
  | k + 1, p, s, h => by
    unfold yRun at h
    by_cases hp : p < L
    · rw [if_pos hp] at h
      cases ht : yTake s (T p) with
      | none =>
        rw [ht] at h
        obtain rfl := Sum.inl.inj h
        exact hp
      | some s' =>
        rw [ht] at h
        exact yRun_lt h
    · rw [if_neg hp] at h; cases h
theorem gRead_le {ln w : Nat} (h : gRead T ln = Sum.inl w) : w ≤ 40 := by
  by_cases h0 : 0 < ln
  · have hm : min ln 40 ≤ 40 := Nat.min_le_right _ _
    rcases (yTop (T := T) h0 (fun _ => false) rfl 0).1 w h with z | ⟨z, _⟩
    · have := yRun_lt z; omega
    · omega
  · unfold gRead at h
    rw [if_pos (by omega)] at h
    cases h
theorem c_rule {ln : Nat} (hX : TxC M T ln) (hP : ∀ j, j < 13 → M 0 j = plT j) : Cw 7 38 [pR 1] LC (PC b) M (fun v P' M' => (∃ b', P' = PC b' ∧ (∀ w, gRead T ln = Sum.inl w → v = some (pI (-1 - (w : Int))) ∧ b' = b) ∧ (∀ V, gRead T ln = Sum.inr V → v = some (pI 0) ∧ b' = (!b) ∧ RuV M' (qr (!b)) V)) ∧ same M' (uM M 1 1 0) [qr (!b), qr (!b) + 1, qr (!b) + 3, qr (!b) + 4]) := by
  refine Cw_k [some (pR 1), none, none] (Nat.le_of_ble_eq_true rfl) rfl (fun d hd Q X hQ => ?_)
  obtain ⟨v, P', M', hE, rfl, h2, h3, h4⟩ := c_readSpare (b := b) hX hP d (by omega)
  have hne := qr_0 (b := !b)
  have hne2 := qr_0 (b := b)
  simp only [s_38_0, s_38_4, s_38_5, s_38_6, s_38_9, s_38_10, s_38_11, s_38_12, s_38_13, s_38_14, s_38_17, s_38_18, s_38_19, s_38_20, s_38_23, s_38_26, s_38_27, s_38_28, s_38_31, s_38_32, true_and, and_true, sc0, sc1, sc2, sc3, sc4, Option.toList, List.cons_append, List.nil_append, clr, ne_eq, not_false_eq_true, not_true_eq_false, false_and, and_false, true_or, or_true, or_false, false_or, forall_const, Nat.reduceEqDiff, List.length_nil, List.length_cons, Nat.zero_le, Nat.reduceAdd, Nat.reduceLeDiff, false_implies, true_implies, Int.reduceEq, Int.reduceNe, Int.reduceLT, Int.reduceLE, Int.reduceNeg, Int.reduceToNat, Int.toNat_natCast, Nat.reduceLT, and_self, Decidable.not_not, kC_0, kC_1, kC_2, kC_3, kC_4, kC_5, kC_6, kC_7, kC_8, kC_9, kC_10, kC_11, kC_12, kC_13, kC_14, kC_15, kC_16, kC_17, kC_18, kC_19, kC_20, kC_21, kC_22, kC_23, kC_24, kC_25, kC_26, kC_27, kC_28, kC_29, kC_30, kC_31, kC_32, kC_145, kC_146, kC_147, kC_148, kC_149, kC_150, kC_151, kC_164, kC_165, kC_166, kC_167, kC_168, kC_169, kC_170, kC_171, kC_172, kC_173, kC_174, kC_175, kC_176, kC_177, kC_178, kC_179, kC_180, kC_181, kC_182, kC_183, kC_184, pC_1_0, pC_1_2, pC_1_3, pC_1_4, pC_1_5, pC_1_6, pC_1_7, pC_1_8, pC_1_9, pC_1_10, pC_1_11, pC_3_5, pC_5_0, pC_5_1, pC_5_2, pC_5_6, pC_5_7, pC_5_8, pC_5_9, pC_5_10, pC_13_0, pC_13_1, pC_13_2, pC_13_6, pC_13_7, pC_13_8, pC_13_9, pC_13_10, pC_21_0, pC_21_1, pC_21_2, pC_21_6, pC_21_7, pC_21_8, pC_21_9, pC_21_10, pC_29_0, pC_29_1, pC_29_2, pC_145_0, pC_145_1, pC_145_2, pC_145_3, pC_145_4, pC_149_0, pC_149_1, pC_149_2, pC_164_1, pC_164_2, pC_164_3, pC_168_0, pC_168_3, pC_168_4, pC_168_5, pC_172_0, pC_175_0, pC_175_2, pC_175_3, pC_175_5, pC_180_0, pC_180_2, pC_180_3, pC_180_5]
  cases hg : gRead T ln with
  | inl w =>
    have hw80 : w ≤ 40 := gRead_le hg
    obtain rfl := h3 w hg
    refine s_38_1 (Nat.le_of_ble_eq_true rfl) kC_1 hE ?_
    have e : ¬ (w : Int) < 0 := by omega
    have e2 : EqW (w32 (-1 - (w : Int))) (-1 - (w : Int)) := EqW_i <| w32s (by omega)
    simp only [s_38_0, s_38_4, s_38_5, s_38_6, s_38_9, s_38_10, s_38_11, s_38_12, s_38_13, s_38_14, s_38_17, s_38_18, s_38_19, s_38_20, s_38_23, s_38_26, s_38_27, s_38_28, s_38_31, s_38_32, true_and, and_true, sc0, sc1, sc2, sc3, sc4, Option.toList, List.cons_append, List.nil_append, clr, ne_eq, not_false_eq_true, not_true_eq_false, false_and, and_false, true_or, or_true, or_false, false_or, forall_const, Nat.reduceEqDiff, List.length_nil, List.length_cons, Nat.zero_le, Nat.reduceAdd, Nat.reduceLeDiff, false_implies, true_implies, Int.reduceEq, Int.reduceNe, Int.reduceLT, Int.reduceLE, Int.reduceNeg, Int.reduceToNat, Int.toNat_natCast, Nat.reduceLT, and_self, Decidable.not_not, kC_0, kC_1, kC_2, kC_3, kC_4, kC_5, kC_6, kC_7, kC_8, kC_9, kC_10, kC_11, kC_12, kC_13, kC_14, kC_15, kC_16, kC_17, kC_18, kC_19, kC_20, kC_21, kC_22, kC_23, kC_24, kC_25, kC_26, kC_27, kC_28, kC_29, kC_30, kC_31, kC_32, kC_145, kC_146, kC_147, kC_148, kC_149, kC_150, kC_151, kC_164, kC_165, kC_166, kC_167, kC_168, kC_169, kC_170, kC_171, kC_172, kC_173, kC_174, kC_175, kC_176, kC_177, kC_178, kC_179, kC_180, kC_181, kC_182, kC_183, kC_184, pC_1_0, pC_1_2, pC_1_3, pC_1_4, pC_1_5, pC_1_6, pC_1_7, pC_1_8, pC_1_9, pC_1_10, pC_1_11, pC_3_5, pC_5_0, pC_5_1, pC_5_2, pC_5_6, pC_5_7, pC_5_8, pC_5_9, pC_5_10, pC_13_0, pC_13_1, pC_13_2, pC_13_6, pC_13_7, pC_13_8, pC_13_9, pC_13_10, pC_21_0, pC_21_1, pC_21_2, pC_21_6, pC_21_7, pC_21_8, pC_21_9, pC_21_10, pC_29_0, pC_29_1, pC_29_2, pC_145_0, pC_145_1, pC_145_2, pC_145_3, pC_145_4, pC_149_0, pC_149_1, pC_149_2, pC_164_1, pC_164_2, pC_164_3, pC_168_0, pC_168_3, pC_168_4, pC_168_5, pC_172_0, pC_175_0, pC_175_2, pC_175_3, pC_175_5, pC_180_0, pC_180_2, pC_180_3, pC_180_5, e, (EqW_o e2)]
    refine hQ _ _ _ ⟨⟨b, rfl, fun w' hw' => ?_, fun V hV => ?_⟩, h2⟩
    · rw [hg] at hw'
      obtain rfl := Sum.inl.inj hw'
      exact ⟨rfl, rfl⟩
    · rw [hg] at hV; cases hV
  | inr V =>
    obtain ⟨rfl, hR⟩ := h4 V hg
    refine s_38_1 (Nat.le_of_ble_eq_true rfl) kC_1 hE ?_
    simp only [s_38_0, s_38_4, s_38_5, s_38_6, s_38_9, s_38_10, s_38_11, s_38_12, s_38_13, s_38_14, s_38_17, s_38_18, s_38_19, s_38_20, s_38_23, s_38_26, s_38_27, s_38_28, s_38_31, s_38_32, true_and, and_true, sc0, sc1, sc2, sc3, sc4, Option.toList, List.cons_append, List.nil_append, clr, ne_eq, not_false_eq_true, not_true_eq_false, false_and, and_false, true_or, or_true, or_false, false_or, forall_const, Nat.reduceEqDiff, List.length_nil, List.length_cons, Nat.zero_le, Nat.reduceAdd, Nat.reduceLeDiff, false_implies, true_implies, Int.reduceEq, Int.reduceNe, Int.reduceLT, Int.reduceLE, Int.reduceNeg, Int.reduceToNat, Int.toNat_natCast, Nat.reduceLT, and_self, Decidable.not_not, kC_0, kC_1, kC_2, kC_3, kC_4, kC_5, kC_6, kC_7, kC_8, kC_9, kC_10, kC_11, kC_12, kC_13, kC_14, kC_15, kC_16, kC_17, kC_18, kC_19, kC_20, kC_21, kC_22, kC_23, kC_24, kC_25, kC_26, kC_27, kC_28, kC_29, kC_30, kC_31, kC_32, kC_145, kC_146, kC_147, kC_148, kC_149, kC_150, kC_151, kC_164, kC_165, kC_166, kC_167, kC_168, kC_169, kC_170, kC_171, kC_172, kC_173, kC_174, kC_175, kC_176, kC_177, kC_178, kC_179, kC_180, kC_181, kC_182, kC_183, kC_184, pC_1_0, pC_1_2, pC_1_3, pC_1_4, pC_1_5, pC_1_6, pC_1_7, pC_1_8, pC_1_9, pC_1_10, pC_1_11, pC_3_5, pC_5_0, pC_5_1, pC_5_2, pC_5_6, pC_5_7, pC_5_8, pC_5_9, pC_5_10, pC_13_0, pC_13_1, pC_13_2, pC_13_6, pC_13_7, pC_13_8, pC_13_9, pC_13_10, pC_21_0, pC_21_1, pC_21_2, pC_21_6, pC_21_7, pC_21_8, pC_21_9, pC_21_10, pC_29_0, pC_29_1, pC_29_2, pC_145_0, pC_145_1, pC_145_2, pC_145_3, pC_145_4, pC_149_0, pC_149_1, pC_149_2, pC_164_1, pC_164_2, pC_164_3, pC_168_0, pC_168_3, pC_168_4, pC_168_5, pC_172_0, pC_175_0, pC_175_2, pC_175_3, pC_175_5, pC_180_0, pC_180_2, pC_180_3, pC_180_5, qr_p, qr_s, hne, hne2]
    rw [uP_sw]
    refine hQ _ _ _ ⟨⟨!b, rfl, fun w' hw' => ?_, fun V' hV' => ?_⟩, h2⟩
    · rw [hg] at hw'; cases hw'
    · rw [hg] at hV'
      obtain rfl := Sum.inr.inj hV'
      exact ⟨rfl, rfl, hR⟩
end
