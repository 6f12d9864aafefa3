/-! the reference: a night -/
/-- came and missed counted for the goers below i -/
noncomputable def cmA (c z : Nat) (V : GV) (B A : Nat → Int) (i : Nat) : Nat → Int := fun j => if j < 120 then A j else if j < 126 then (if j - 120 < i ∧ hpS c z V A B (j - 120) then mn9 999 (w32 (A j + 1)) else A j) else if j < 132 then (if j - 126 < i ∧ ¬ hpS c z V A B (j - 126) then mn9 999 (w32 (A j + 1)) else A j) else A j
section
variable {c z n : Nat} {A B : Nat → Int} {V : GV}
theorem cm_lt {i j : Nat} (h : j < 120 ∨ j = 132) : cmA c z V B A i j = A j := by
  unfold cmA
  rcases h with h | h
  · rw [if_pos h]
  · subst h; rfl
theorem cm_h {i g : Nat} (hg : g < 6) : hF V (cmA c z V B A i) g = hF V A g := hF_cg (fun j hj => cm_lt hj) hg
theorem cm_0 : cmA c z V B A 0 = A := by
  funext j
  unfold cmA
  by_cases h1 : j < 120
  · rw [if_pos h1]
  rw [if_neg h1]
  by_cases h2 : j < 126
  · rw [if_pos h2, if_neg (by omega)]
  rw [if_neg h2]
  by_cases h3 : j < 132
  · rw [if_pos h3, if_neg (by omega)]
  rw [if_neg h3]
theorem mn_r {x : Int} (h : 0 ≤ x ∧ x ≤ 999) : 0 ≤ mn9 999 (w32 (x + 1)) ∧ mn9 999 (w32 (x + 1)) ≤ 999 := by
  unfold mn9
  rw [w32s (by omega)]
  split <;> omega
theorem SnV_cm {i : Nat} (h : SnV A B z n) (hz : z ≤ 36) : SnV (cmA c z V B A i) B z n := by
  obtain ⟨h6, h1, h2, h3⟩ := h
  refine ⟨h6, fun f hf => ?_, fun g hg => ?_, ?_⟩
  · rw [cm_lt (by omega), cm_lt (by omega), cm_lt (by omega)]; exact h1 f hf
  · obtain ⟨a1, a2, a3, a4, a5⟩ := h2 g hg
    rw [cm_lt (by omega), cm_lt (by omega)]
    refine ⟨a1, a2, a3, ?_, ?_⟩
    · unfold cmA
      rw [if_neg (by omega), if_pos (by omega)]
      split
      · exact mn_r a4
      · exact a4
    · unfold cmA
      rw [if_neg (by omega), if_neg (by omega), if_pos (by omega)]
      split
      · exact mn_r a5
      · exact a5
  · rw [cm_lt (Or.inr rfl)]; exact h3
theorem cm_s {i j : Nat} (hi : i < 6) : (if j = (if hpS c z V A B i then 120 else 126) + i then mn9 999 (w32 (A j + 1)) else cmA c z V B A i j) = cmA c z V B A (i + 1) j := by
  unfold cmA
  by_cases h1 : j < 120
  · rw [if_pos h1, if_pos h1, if_neg (by split <;> omega)]
  rw [if_neg h1, if_neg h1]
  by_cases h2 : j < 126
  · rw [if_pos h2, if_pos h2]
    by_cases e : j = 120 + i
    · subst e
      rw [Nat.add_sub_cancel_left]
      by_cases hp : hpS c z V A B i
      · rw [if_pos hp, if_pos rfl, if_pos ⟨by omega, hp⟩]
      · rw [if_neg hp, if_neg (by omega), if_neg (by omega), if_neg (fun w => hp w.2)]
    · have e2 : ¬ j = (if hpS c z V A B i then 120 else 126) + i := by split <;> omega
      rw [if_neg e2]
      by_cases hj : j - 120 < i
      · simp only [show j - 120 < i + 1 ↔ j - 120 < i by omega]
      · simp only [show j - 120 < i + 1 ↔ j - 120 < i by omega]
  rw [if_neg h2, if_neg h2]
  by_cases h3 : j < 132
  · rw [if_pos h3, if_pos h3]
    by_cases e : j = 126 + i
    · subst e
      rw [Nat.add_sub_cancel_left]
      by_cases hp : hpS c z V A B i
      · rw [if_pos hp, if_neg (by omega), if_neg (by omega), if_neg (fun w => w.2 hp)]
      · rw [if_neg hp, if_pos rfl, if_pos ⟨by omega, hp⟩]
    · have e2 : ¬ j = (if hpS c z V A B i then 120 else 126) + i := by split <;> omega
      rw [if_neg e2]
      simp only [show j - 126 < i + 1 ↔ j - 126 < i by omega]
  · rw [if_neg h3, if_neg h3, if_neg (by split <;> omega)]
theorem cm_at {i : Nat} (hi : i < 6) : cmA c z V B A i ((if hpS c z V A B i then 120 else 126) + i) = A ((if hpS c z V A B i then 120 else 126) + i) := by
  by_cases hp : hpS c z V A B i
  · rw [if_pos hp]
    unfold cmA
    rw [if_neg (by omega), if_pos (by omega), if_neg (by omega)]
  · rw [if_neg hp]
    unfold cmA
    rw [if_neg (by omega), if_neg (by omega), if_pos (by omega), if_neg (by omega)]
/-- the fields below k worn -/
noncomputable def wrA (c z n : Nat) (V : GV) (B : Nat → Int) (u : Int) (A : Nat → Int) (k : Nat) : Nat → Int := fun j => if j < 36 then (if j < k ∧ opS c z n V A B u j = true then 0 else A j) else if j < 72 then (if j - 36 < k then wnS c z n V A B (j - 36) else A j) else cmA c z V B A n j
theorem wr_0 {u : Int} : wrA c z n V B u A 0 = cmA c z V B A n := by
  funext j
  unfold wrA
  by_cases h1 : j < 36
  · rw [if_pos h1, if_neg (by omega), cm_lt (by omega)]
  rw [if_neg h1]
  by_cases h2 : j < 72
  · rw [if_pos h2, if_neg (by omega), cm_lt (by omega)]
  rw [if_neg h2]
theorem wr_z {u : Int} {j : Nat} (hj : j < 133) : (if j = 132 then w32 (A 132 + 1) else wrA c z n V B u A z j) = ntA c z n V B u A j := by
  unfold ntA wrA cmA
  by_cases h0 : j = 132
  · subst h0; rfl
  rw [if_neg h0]
  by_cases h1 : j < 36
  · rw [if_pos h1, if_pos h1]
  rw [if_neg h1, if_neg h1]
  by_cases h2 : j < 72
  · rw [if_pos h2, if_pos h2]
  rw [if_neg h2, if_neg h2]
  by_cases h3 : j < 120
  · rw [if_pos h3, if_pos h3]
  rw [if_neg h3, if_neg h3]
  by_cases h4 : j < 126
  · rw [if_pos h4, if_pos h4]
  rw [if_neg h4, if_neg h4]
  by_cases h5 : j < 132
  · rw [if_pos h5, if_pos h5]
  · omega
end
section
variable {M : MM} {rd ru r c n x z : Nat} {A B : Nat → Int} {V : GV} {u : Int}
theorem r_goNight (hE : EnR M ru r c n z B V) (hx : isN x) (hA : ArR M x A) (hV : SnV A B z n) (hu : M 1 4 = u) : Cw 184 205 [pR 1, pR x] LR (PR rd ru) M (fun v P' M' => (∃ rd', P' = PR rd' ru) ∧ v = some (pI (cnt (fun g => decide (hpS c z V A B g)) n : Int)) ∧ Fr (31 :: 32 :: SPl) (16 :: x :: TPl) M M' ∧ ArR M' x (ntA c z n V B u A) ∧ M' 1 31 = w32 (M 1 31 + ((n - cnt (fun g => decide (hpS c z V A B g)) n : Nat) : Int)) ∧ M' 1 32 = inc (cnt (opS c z n V A B u) z) (M 1 32)) := by
  refine Cw_k [some (pR 1), some (pR x), none, none, none, none, none] (Nat.le_of_ble_eq_true rfl) rfl (fun d hd Q X hQ => ?_)
  have hn6 := hV.1
  have hL := EnR_L hE
  have hz := EnR_z hE
  have hx1 := isN_1 hx
  have kx := isN_k hx
  have hru := EnR_ru hE
  have hxT : x ∉ TPl := hx1.2.1
  -- the fields
  have k3 : ∀ (rd : Nat) (N : MM) (l3 l4 l5 l6 : Option PV), Fr (31 :: 32 :: SPl) (16 :: x :: TPl) M N → ArR N x (cmA c z V B A n) → (∀ f, f < z → N 16 f = (cnt (fun g => onS c z V A B g f) n : Int)) → N 1 31 = M 1 31 → N 1 32 = M 1 32 → wpB (Ev d) 205 Q X 134 [some (pR 1), some (pR x), some (pI (cnt (fun g => decide (hpS c z V A B g)) n : Int)), l3, l4, l5, l6] [] (kz LR) (PR rd ru) N := by
    intro rd N l3 l4 l5 l6 hFr hAr h16 h31 h32
    simp only [s_205_0, s_205_1, s_205_2, s_205_3, s_205_5, s_205_7, s_205_10, s_205_11, s_205_14, s_205_15, s_205_16, s_205_17, s_205_20, s_205_23, s_205_24, s_205_26, s_205_27, s_205_30, s_205_33, s_205_34, s_205_35, s_205_39, s_205_42, s_205_43, s_205_46, s_205_47, s_205_49, s_205_50, s_205_52, s_205_55, s_205_56, s_205_59, s_205_60, s_205_61, s_205_62, s_205_64, s_205_67, s_205_69, s_205_72, s_205_74, s_205_75, s_205_76, s_205_78, s_205_79, s_205_81, s_205_84, s_205_85, s_205_87, s_205_88, s_205_89, s_205_90, s_205_93, s_205_94, s_205_95, s_205_99, s_205_100, s_205_103, s_205_106, s_205_107, s_205_110, s_205_111, s_205_114, s_205_116, s_205_117, s_205_118, s_205_119, s_205_120, s_205_121, s_205_122, s_205_125, s_205_128, s_205_131, s_205_134, s_205_135, s_205_137, s_205_141, s_205_144, s_205_145, s_205_147, s_205_148, s_205_149, s_205_151, s_205_152, s_205_154, s_205_155, s_205_156, s_205_157, s_205_158, s_205_161, s_205_162, s_205_163, s_205_164, s_205_167, s_205_168, s_205_169, s_205_170, s_205_171, s_205_172, s_205_176, s_205_179, s_205_180, s_205_182, s_205_183, s_205_184, s_205_185, s_205_186, s_205_189, s_205_192, s_205_195, s_205_196, s_205_197, s_205_198, s_205_199, s_205_200I, s_205_200, s_205_201, s_205_204, s_205_205, s_205_206, s_205_209, s_205_212, s_205_215, s_205_216I, s_205_216, s_205_217, s_205_220, s_205_221, s_205_224, s_205_225, s_205_226, s_205_227, s_205_230, s_205_231, s_205_234, s_205_235, s_205_236, s_205_237, s_205_238, s_205_239, s_205_240, true_and, and_true, sc0, sc1, sc2, sc3, sc4, Option.toList, List.cons_append, List.nil_append, clr, ne_eq, not_false_eq_true, not_true_eq_false, false_and, and_false, true_or, or_true, or_false, false_or, forall_const, Nat.reduceEqDiff, List.length_nil, List.length_cons, Nat.zero_le, Nat.reduceAdd, Nat.reduceLeDiff, false_implies, true_implies, Int.reduceEq, Int.reduceNe, Int.reduceLT, Int.reduceLE, Int.reduceNeg, Int.reduceToNat, Int.toNat_natCast, Nat.reduceLT, and_self, Decidable.not_not, kR_1, kR_2, kR_3, kR_4, kR_5, kR_6, kR_7, kR_8, kR_9, kR_10, kR_11, kR_12, kR_13, kR_14, kR_15, kR_16, kR_17, kR_18, kR_19, kR_20, kR_21, kR_22, kR_23, pR_0, pR_5, pR_6, pR_8, pR_11, pR_16, pR_17, pR_18, pR_21, pR_22, pR_23, pR_24, pR_26, pR_28, pR_29, pR_30, pR_33, pR_34, pR_35, pR_38, pR_41, pR_42, pR_43]
    refine lup (α := MM) (I := fun k K => Fr (31 :: 32 :: SPl) (16 :: x :: TPl) M K ∧ ArR K x (wrA c z n V B u A k) ∧ K 16 = N 16 ∧ K 1 31 = M 1 31 ∧ K 1 32 = inc (cnt (opS c z n V A B u) k) (M 1 32)) (G := fun k K => wpB (Ev d) 205 Q X 136 [some (pR 1), some (pR x), some (pI (cnt (fun g => decide (hpS c z V A B g)) n : Int)), some (pI (k : Int)), l4, l5, l6] [] (kz LR) (PR rd ru) K) z (fun K hK => ?_) (fun k K hk hK ih => ?_) 0 N (Nat.zero_le _) ⟨hFr, by rw [wr_0]; exact hAr, rfl, h31, h32⟩
    · obtain ⟨a1, a2, a3, a4, a5⟩ := hK
      have hEK := EnR_fr hE a1 (by decide) ⟨by simp [TPl]; omega, by simp [TPl]; omega⟩
      have hfi := r_fields (rd := rd) (ru := ru) hEK.1
      rw [← hE.2.1] at hfi
      have e3 : K 1 3 = (n : Int) := hEK.1.2.2.1
      have b1 : (132 : Int) < ((133 : Nat) : Int) := by decide
      have hcl := cnt_le (fun g => decide (hpS c z V A B g)) n
      have w1 : EqW (w32 ((n : Int) - (cnt (fun g => decide (hpS c z V A B g)) n : Int))) (((n - cnt (fun g => decide (hpS c z V A B g)) n : Nat) : Int)) := EqW_i <| by unfold w32; omega
      have e132 : ∀ v : Int, uM K 1 31 v x 132 = A 132 := fun v => by rw [uM_ne hx1.1, a2 132 (by decide)]; rfl
      rw [s_205_136]
      simp only [s_205_0, s_205_1, s_205_2, s_205_3, s_205_5, s_205_7, s_205_10, s_205_11, s_205_14, s_205_15, s_205_16, s_205_17, s_205_20, s_205_23, s_205_24, s_205_26, s_205_27, s_205_30, s_205_33, s_205_34, s_205_35, s_205_39, s_205_42, s_205_43, s_205_46, s_205_47, s_205_49, s_205_50, s_205_52, s_205_55, s_205_56, s_205_59, s_205_60, s_205_61, s_205_62, s_205_64, s_205_67, s_205_69, s_205_72, s_205_74, s_205_75, s_205_76, s_205_78, s_205_79, s_205_81, s_205_84, s_205_85, s_205_87, s_205_88, s_205_89, s_205_90, s_205_93, s_205_94, s_205_95, s_205_99, s_205_100, s_205_103, s_205_106, s_205_107, s_205_110, s_205_111, s_205_114, s_205_116, s_205_117, s_205_118, s_205_119, s_205_120, s_205_121, s_205_122, s_205_125, s_205_128, s_205_131, s_205_134, s_205_135, s_205_137, s_205_141, s_205_144, s_205_145, s_205_147, s_205_148, s_205_149, s_205_151, s_205_152, s_205_154, s_205_155, s_205_156, s_205_157, s_205_158, s_205_161, s_205_162, s_205_163, s_205_164, s_205_167, s_205_168, s_205_169, s_205_170, s_205_171, s_205_172, s_205_176, s_205_179, s_205_180, s_205_182, s_205_183, s_205_184, s_205_185, s_205_186, s_205_189, s_205_192, s_205_195, s_205_196, s_205_197, s_205_198, s_205_199, s_205_200I, s_205_200, s_205_201, s_205_204, s_205_205, s_205_206, s_205_209, s_205_212, s_205_215, s_205_216I, s_205_216, s_205_217, s_205_220, s_205_221, s_205_224, s_205_225, s_205_226, s_205_227, s_205_230, s_205_231, s_205_234, s_205_235, s_205_236, s_205_237, s_205_238, s_205_239, s_205_240, true_and, and_true, sc0, sc1, sc2, sc3, sc4, Option.toList, List.cons_append, List.nil_append, clr, ne_eq, not_false_eq_true, not_true_eq_false, false_and, and_false, true_or, or_true, or_false, false_or, forall_const, Nat.reduceEqDiff, List.length_nil, List.length_cons, Nat.zero_le, Nat.reduceAdd, Nat.reduceLeDiff, false_implies, true_implies, Int.reduceEq, Int.reduceNe, Int.reduceLT, Int.reduceLE, Int.reduceNeg, Int.reduceToNat, Int.toNat_natCast, Nat.reduceLT, and_self, Decidable.not_not, kR_1, kR_2, kR_3, kR_4, kR_5, kR_6, kR_7, kR_8, kR_9, kR_10, kR_11, kR_12, kR_13, kR_14, kR_15, kR_16, kR_17, kR_18, kR_19, kR_20, kR_21, kR_22, kR_23, pR_0, pR_5, pR_6, pR_8, pR_11, pR_16, pR_17, pR_18, pR_21, pR_22, pR_23, pR_24, pR_26, pR_28, pR_29, pR_30, pR_33, pR_34, pR_35, pR_38, pR_41, pR_42, pR_43]
      refine s_205_138 (Nat.le_of_ble_eq_true rfl) kR_1 (hfi d (by omega)) ?_
      simp only [s_205_0, s_205_1, s_205_2, s_205_3, s_205_5, s_205_7, s_205_10, s_205_11, s_205_14, s_205_15, s_205_16, s_205_17, s_205_20, s_205_23, s_205_24, s_205_26, s_205_27, s_205_30, s_205_33, s_205_34, s_205_35, s_205_39, s_205_42, s_205_43, s_205_46, s_205_47, s_205_49, s_205_50, s_205_52, s_205_55, s_205_56, s_205_59, s_205_60, s_205_61, s_205_62, s_205_64, s_205_67, s_205_69, s_205_72, s_205_74, s_205_75, s_205_76, s_205_78, s_205_79, s_205_81, s_205_84, s_205_85, s_205_87, s_205_88, s_205_89, s_205_90, s_205_93, s_205_94, s_205_95, s_205_99, s_205_100, s_205_103, s_205_106, s_205_107, s_205_110, s_205_111, s_205_114, s_205_116, s_205_117, s_205_118, s_205_119, s_205_120, s_205_121, s_205_122, s_205_125, s_205_128, s_205_131, s_205_134, s_205_135, s_205_137, s_205_141, s_205_144, s_205_145, s_205_147, s_205_148, s_205_149, s_205_151, s_205_152, s_205_154, s_205_155, s_205_156, s_205_157, s_205_158, s_205_161, s_205_162, s_205_163, s_205_164, s_205_167, s_205_168, s_205_169, s_205_170, s_205_171, s_205_172, s_205_176, s_205_179, s_205_180, s_205_182, s_205_183, s_205_184, s_205_185, s_205_186, s_205_189, s_205_192, s_205_195, s_205_196, s_205_197, s_205_198, s_205_199, s_205_200I, s_205_200, s_205_201, s_205_204, s_205_205, s_205_206, s_205_209, s_205_212, s_205_215, s_205_216I, s_205_216, s_205_217, s_205_220, s_205_221, s_205_224, s_205_225, s_205_226, s_205_227, s_205_230, s_205_231, s_205_234, s_205_235, s_205_236, s_205_237, s_205_238, s_205_239, s_205_240, true_and, and_true, sc0, sc1, sc2, sc3, sc4, Option.toList, List.cons_append, List.nil_append, clr, ne_eq, not_false_eq_true, not_true_eq_false, false_and, and_false, true_or, or_true, or_false, false_or, forall_const, Nat.reduceEqDiff, List.length_nil, List.length_cons, Nat.zero_le, Nat.reduceAdd, Nat.reduceLeDiff, false_implies, true_implies, Int.reduceEq, Int.reduceNe, Int.reduceLT, Int.reduceLE, Int.reduceNeg, Int.reduceToNat, Int.toNat_natCast, Nat.reduceLT, and_self, Decidable.not_not, kR_1, kR_2, kR_3, kR_4, kR_5, kR_6, kR_7, kR_8, kR_9, kR_10, kR_11, kR_12, kR_13, kR_14, kR_15, kR_16, kR_17, kR_18, kR_19, kR_20, kR_21, kR_22, kR_23, pR_0, pR_5, pR_6, pR_8, pR_11, pR_16, pR_17, pR_18, pR_21, pR_22, pR_23, pR_24, pR_26, pR_28, pR_29, pR_30, pR_33, pR_34, pR_35, pR_38, pR_41, pR_42, pR_43, Int.le_refl, e3, a4, (EqW_o w1), kx, b1, e132]
      refine hQ _ _ _ ⟨⟨rd, rfl⟩, rfl, Fr_o (Fr_1 a1 (by simp)) hx1.1 (by simp), fun j hj => ?_, ?_, ?_⟩
      · rw [uM_at, if_pos rfl, ← wr_z hj]
        by_cases e : j = 132
        · rw [if_pos e, if_pos e]
        · rw [if_neg e, if_neg e, uM_ne hx1.1]; exact a2 j hj
      · rw [uM_ne (fun e => hx1.1 e.symm), uM_at, if_pos rfl, if_pos rfl]
      · rw [uM_ne (fun e => hx1.1 e.symm), uM_at, if_pos rfl, if_neg (by decide)]; exact a5
    · obtain ⟨a1, a2, a3, a4, a5⟩ := hK
      have hEK := EnR_fr hE a1 (by decide) ⟨by simp [TPl]; omega, by simp [TPl]; omega⟩
      have hfi := r_fields (rd := rd) (ru := ru) hEK.1
      rw [← hE.2.1] at hfi
      have e0 : ¬ (z : Int) ≤ (k : Int) := by omega
      have en := EqW_i (w32n (show k < 1000000 by omega))
      have b0 : (0 : Int) ≤ (k : Int) := by omega
      have b1 : (k : Int) < ((133 : Nat) : Int) := by omega
      have b2 : (k : Int) < ((36 : Nat) : Int) := by omega
      have b3 : (0 : Int) ≤ ((36 + k : Nat) : Int) := by omega
      have b4 : ((36 + k : Nat) : Int) < ((133 : Nat) : Int) := by omega
      have q1 : EqW (w32 (36 + (k : Int))) (((36 + k : Nat) : Int)) := EqW_i <| by unfold w32; omega
      have ew : K x (36 + k) = A (36 + k) := by
        rw [a2 (36 + k) (by omega)]; unfold wrA
        rw [if_neg (by omega), if_pos (by omega), if_neg (by omega)]
      have ek : K x k = A k := by
        rw [a2 k (by omega)]; unfold wrA
        rw [if_pos (by omega), if_neg (by omega)]
      have e16 : K 16 k = (cnt (fun g => onS c z V A B g k) n : Int) := by rw [a3]; exact h16 k hk
      have eu : K 1 4 = u := by rw [a1.1 4 (by simp [SPl])]; exact hu
      have hwn : EqW (if w32 (A (36 + k) + (cnt (fun g => onS c z V A B g k) n : Int)) < 99 then w32 (A (36 + k) + (cnt (fun g => onS c z V A B g k) n : Int)) else 99) (wnS c z n V A B k) := EqW_i rfl
      have hin := r_in (L := LR) (P := PR rd ru) (M := uM K x (36 + k) (wnS c z n V A B k)) (v := A k) (lo := 1) (hi := 2)
      have x16 : ¬ (16 : Nat) = x := fun e => hx1.2.2.1 e.symm
      have x1 : ¬ (1 : Nat) = x := fun e => hx1.1 e.symm
      have n36 : ¬ k = 36 + k := by omega
      have ek' : uM K x (36 + k) (wnS c z n V A B k) x k = A k := by rw [uM_at, if_pos rfl, if_neg n36]; exact ek
      have ew' : uM K x (36 + k) (wnS c z n V A B k) x (36 + k) = wnS c z n V A B k := by rw [uM_at, if_pos rfl, if_pos rfl]
      have eu' : uM K x (36 + k) (wnS c z n V A B k) 1 4 = u := by rw [uM_ne x1]; exact eu
      have e32' : ∀ v : Int, uM (uM K x (36 + k) (wnS c z n V A B k)) x k v 1 32 = K 1 32 := fun v => by rw [uM_ne x1, uM_ne x1]
      rw [s_205_136]
      simp only [s_205_0, s_205_1, s_205_2, s_205_3, s_205_5, s_205_7, s_205_10, s_205_11, s_205_14, s_205_15, s_205_16, s_205_17, s_205_20, s_205_23, s_205_24, s_205_26, s_205_27, s_205_30, s_205_33, s_205_34, s_205_35, s_205_39, s_205_42, s_205_43, s_205_46, s_205_47, s_205_49, s_205_50, s_205_52, s_205_55, s_205_56, s_205_59, s_205_60, s_205_61, s_205_62, s_205_64, s_205_67, s_205_69, s_205_72, s_205_74, s_205_75, s_205_76, s_205_78, s_205_79, s_205_81, s_205_84, s_205_85, s_205_87, s_205_88, s_205_89, s_205_90, s_205_93, s_205_94, s_205_95, s_205_99, s_205_100, s_205_103, s_205_106, s_205_107, s_205_110, s_205_111, s_205_114, s_205_116, s_205_117, s_205_118, s_205_119, s_205_120, s_205_121, s_205_122, s_205_125, s_205_128, s_205_131, s_205_134, s_205_135, s_205_137, s_205_141, s_205_144, s_205_145, s_205_147, s_205_148, s_205_149, s_205_151, s_205_152, s_205_154, s_205_155, s_205_156, s_205_157, s_205_158, s_205_161, s_205_162, s_205_163, s_205_164, s_205_167, s_205_168, s_205_169, s_205_170, s_205_171, s_205_172, s_205_176, s_205_179, s_205_180, s_205_182, s_205_183, s_205_184, s_205_185, s_205_186, s_205_189, s_205_192, s_205_195, s_205_196, s_205_197, s_205_198, s_205_199, s_205_200I, s_205_200, s_205_201, s_205_204, s_205_205, s_205_206, s_205_209, s_205_212, s_205_215, s_205_216I, s_205_216, s_205_217, s_205_220, s_205_221, s_205_224, s_205_225, s_205_226, s_205_227, s_205_230, s_205_231, s_205_234, s_205_235, s_205_236, s_205_237, s_205_238, s_205_239, s_205_240, true_and, and_true, sc0, sc1, sc2, sc3, sc4, Option.toList, List.cons_append, List.nil_append, clr, ne_eq, not_false_eq_true, not_true_eq_false, false_and, and_false, true_or, or_true, or_false, false_or, forall_const, Nat.reduceEqDiff, List.length_nil, List.length_cons, Nat.zero_le, Nat.reduceAdd, Nat.reduceLeDiff, false_implies, true_implies, Int.reduceEq, Int.reduceNe, Int.reduceLT, Int.reduceLE, Int.reduceNeg, Int.reduceToNat, Int.toNat_natCast, Nat.reduceLT, and_self, Decidable.not_not, kR_1, kR_2, kR_3, kR_4, kR_5, kR_6, kR_7, kR_8, kR_9, kR_10, kR_11, kR_12, kR_13, kR_14, kR_15, kR_16, kR_17, kR_18, kR_19, kR_20, kR_21, kR_22, kR_23, pR_0, pR_5, pR_6, pR_8, pR_11, pR_16, pR_17, pR_18, pR_21, pR_22, pR_23, pR_24, pR_26, pR_28, pR_29, pR_30, pR_33, pR_34, pR_35, pR_38, pR_41, pR_42, pR_43]
      refine s_205_138 (Nat.le_of_ble_eq_true rfl) kR_1 (hfi d (by omega)) ?_
      simp only [s_205_0, s_205_1, s_205_2, s_205_3, s_205_5, s_205_7, s_205_10, s_205_11, s_205_14, s_205_15, s_205_16, s_205_17, s_205_20, s_205_23, s_205_24, s_205_26, s_205_27, s_205_30, s_205_33, s_205_34, s_205_35, s_205_39, s_205_42, s_205_43, s_205_46, s_205_47, s_205_49, s_205_50, s_205_52, s_205_55, s_205_56, s_205_59, s_205_60, s_205_61, s_205_62, s_205_64, s_205_67, s_205_69, s_205_72, s_205_74, s_205_75, s_205_76, s_205_78, s_205_79, s_205_81, s_205_84, s_205_85, s_205_87, s_205_88, s_205_89, s_205_90, s_205_93, s_205_94, s_205_95, s_205_99, s_205_100, s_205_103, s_205_106, s_205_107, s_205_110, s_205_111, s_205_114, s_205_116, s_205_117, s_205_118, s_205_119, s_205_120, s_205_121, s_205_122, s_205_125, s_205_128, s_205_131, s_205_134, s_205_135, s_205_137, s_205_141, s_205_144, s_205_145, s_205_147, s_205_148, s_205_149, s_205_151, s_205_152, s_205_154, s_205_155, s_205_156, s_205_157, s_205_158, s_205_161, s_205_162, s_205_163, s_205_164, s_205_167, s_205_168, s_205_169, s_205_170, s_205_171, s_205_172, s_205_176, s_205_179, s_205_180, s_205_182, s_205_183, s_205_184, s_205_185, s_205_186, s_205_189, s_205_192, s_205_195, s_205_196, s_205_197, s_205_198, s_205_199, s_205_200I, s_205_200, s_205_201, s_205_204, s_205_205, s_205_206, s_205_209, s_205_212, s_205_215, s_205_216I, s_205_216, s_205_217, s_205_220, s_205_221, s_205_224, s_205_225, s_205_226, s_205_227, s_205_230, s_205_231, s_205_234, s_205_235, s_205_236, s_205_237, s_205_238, s_205_239, s_205_240, true_and, and_true, sc0, sc1, sc2, sc3, sc4, Option.toList, List.cons_append, List.nil_append, clr, ne_eq, not_false_eq_true, not_true_eq_false, false_and, and_false, true_or, or_true, or_false, false_or, forall_const, Nat.reduceEqDiff, List.length_nil, List.length_cons, Nat.zero_le, Nat.reduceAdd, Nat.reduceLeDiff, false_implies, true_implies, Int.reduceEq, Int.reduceNe, Int.reduceLT, Int.reduceLE, Int.reduceNeg, Int.reduceToNat, Int.toNat_natCast, Nat.reduceLT, and_self, Decidable.not_not, kR_1, kR_2, kR_3, kR_4, kR_5, kR_6, kR_7, kR_8, kR_9, kR_10, kR_11, kR_12, kR_13, kR_14, kR_15, kR_16, kR_17, kR_18, kR_19, kR_20, kR_21, kR_22, kR_23, pR_0, pR_5, pR_6, pR_8, pR_11, pR_16, pR_17, pR_18, pR_21, pR_22, pR_23, pR_24, pR_26, pR_28, pR_29, pR_30, pR_33, pR_34, pR_35, pR_38, pR_41, pR_42, pR_43, e0, kx, b0, b1, b2, b3, b4, (EqW_o q1), ew, e16, EqW_o hwn, ek']
      refine s_205_173 (Nat.le_of_ble_eq_true rfl) (hin d (by omega)) ?_
      have nop : opS c z n V A B u k = false → wpB (Ev d) 205 Q X 209 [some (pR 1), some (pR x), some (pI (cnt (fun g => decide (hpS c z V A B g)) n : Int)), some (pI (k : Int)), l4, l5, l6] [] (kz LR) (PR rd ru) (uM K x (36 + k) (wnS c z n V A B k)) := by
        intro ho
        simp only [s_205_0, s_205_1, s_205_2, s_205_3, s_205_5, s_205_7, s_205_10, s_205_11, s_205_14, s_205_15, s_205_16, s_205_17, s_205_20, s_205_23, s_205_24, s_205_26, s_205_27, s_205_30, s_205_33, s_205_34, s_205_35, s_205_39, s_205_42, s_205_43, s_205_46, s_205_47, s_205_49, s_205_50, s_205_52, s_205_55, s_205_56, s_205_59, s_205_60, s_205_61, s_205_62, s_205_64, s_205_67, s_205_69, s_205_72, s_205_74, s_205_75, s_205_76, s_205_78, s_205_79, s_205_81, s_205_84, s_205_85, s_205_87, s_205_88, s_205_89, s_205_90, s_205_93, s_205_94, s_205_95, s_205_99, s_205_100, s_205_103, s_205_106, s_205_107, s_205_110, s_205_111, s_205_114, s_205_116, s_205_117, s_205_118, s_205_119, s_205_120, s_205_121, s_205_122, s_205_125, s_205_128, s_205_131, s_205_134, s_205_135, s_205_137, s_205_141, s_205_144, s_205_145, s_205_147, s_205_148, s_205_149, s_205_151, s_205_152, s_205_154, s_205_155, s_205_156, s_205_157, s_205_158, s_205_161, s_205_162, s_205_163, s_205_164, s_205_167, s_205_168, s_205_169, s_205_170, s_205_171, s_205_172, s_205_176, s_205_179, s_205_180, s_205_182, s_205_183, s_205_184, s_205_185, s_205_186, s_205_189, s_205_192, s_205_195, s_205_196, s_205_197, s_205_198, s_205_199, s_205_200I, s_205_200, s_205_201, s_205_204, s_205_205, s_205_206, s_205_209, s_205_212, s_205_215, s_205_216I, s_205_216, s_205_217, s_205_220, s_205_221, s_205_224, s_205_225, s_205_226, s_205_227, s_205_230, s_205_231, s_205_234, s_205_235, s_205_236, s_205_237, s_205_238, s_205_239, s_205_240, true_and, and_true, sc0, sc1, sc2, sc3, sc4, Option.toList, List.cons_append, List.nil_append, clr, ne_eq, not_false_eq_true, not_true_eq_false, false_and, and_false, true_or, or_true, or_false, false_or, forall_const, Nat.reduceEqDiff, List.length_nil, List.length_cons, Nat.zero_le, Nat.reduceAdd, Nat.reduceLeDiff, false_implies, true_implies, Int.reduceEq, Int.reduceNe, Int.reduceLT, Int.reduceLE, Int.reduceNeg, Int.reduceToNat, Int.toNat_natCast, Nat.reduceLT, and_self, Decidable.not_not, kR_1, kR_2, kR_3, kR_4, kR_5, kR_6, kR_7, kR_8, kR_9, kR_10, kR_11, kR_12, kR_13, kR_14, kR_15, kR_16, kR_17, kR_18, kR_19, kR_20, kR_21, kR_22, kR_23, pR_0, pR_5, pR_6, pR_8, pR_11, pR_16, pR_17, pR_18, pR_21, pR_22, pR_23, pR_24, pR_26, pR_28, pR_29, pR_30, pR_33, pR_34, pR_35, pR_38, pR_41, pR_42, pR_43, (EqW_o en)]
        refine ih _ ⟨Fr_o a1 hx1.1 (by simp), fun j hj => ?_, by rw [uM_ne x16]; exact a3, by rw [uM_ne x1]; exact a4, by rw [uM_ne x1, a5, cnt_f ho]⟩
        rw [uM_at, if_pos rfl]
        by_cases e : j = 36 + k
        · subst e
          rw [if_pos rfl]; unfold wrA
          rw [if_neg (by omega), if_pos (by omega), if_pos (by omega), Nat.add_sub_cancel_left]
        · rw [if_neg e, a2 j hj]
          unfold wrA
          by_cases h1 : j < 36
          · rw [if_pos h1, if_pos h1]
            by_cases e2 : j = k
            · subst e2; rw [if_neg (by omega), if_neg (by rw [ho]; simp)]
            · simp only [show j < k + 1 ↔ j < k by omega]
          · rw [if_neg h1, if_neg h1]
            simp only [show j - 36 < k + 1 ↔ j - 36 < k by omega]
      by_cases g1 : 1 ≤ A k ∧ A k ≤ 2
      · rw [if_pos g1]
        by_cases g2 : u ≤ wnS c z n V A B k
        · have ho : opS c z n V A B u k = true := by unfold opS; rw [decide_eq_true_iff]; exact ⟨by omega, g2⟩
          simp only [s_205_0, s_205_1, s_205_2, s_205_3, s_205_5, s_205_7, s_205_10, s_205_11, s_205_14, s_205_15, s_205_16, s_205_17, s_205_20, s_205_23, s_205_24, s_205_26, s_205_27, s_205_30, s_205_33, s_205_34, s_205_35, s_205_39, s_205_42, s_205_43, s_205_46, s_205_47, s_205_49, s_205_50, s_205_52, s_205_55, s_205_56, s_205_59, s_205_60, s_205_61, s_205_62, s_205_64, s_205_67, s_205_69, s_205_72, s_205_74, s_205_75, s_205_76, s_205_78, s_205_79, s_205_81, s_205_84, s_205_85, s_205_87, s_205_88, s_205_89, s_205_90, s_205_93, s_205_94, s_205_95, s_205_99, s_205_100, s_205_103, s_205_106, s_205_107, s_205_110, s_205_111, s_205_114, s_205_116, s_205_117, s_205_118, s_205_119, s_205_120, s_205_121, s_205_122, s_205_125, s_205_128, s_205_131, s_205_134, s_205_135, s_205_137, s_205_141, s_205_144, s_205_145, s_205_147, s_205_148, s_205_149, s_205_151, s_205_152, s_205_154, s_205_155, s_205_156, s_205_157, s_205_158, s_205_161, s_205_162, s_205_163, s_205_164, s_205_167, s_205_168, s_205_169, s_205_170, s_205_171, s_205_172, s_205_176, s_205_179, s_205_180, s_205_182, s_205_183, s_205_184, s_205_185, s_205_186, s_205_189, s_205_192, s_205_195, s_205_196, s_205_197, s_205_198, s_205_199, s_205_200I, s_205_200, s_205_201, s_205_204, s_205_205, s_205_206, s_205_209, s_205_212, s_205_215, s_205_216I, s_205_216, s_205_217, s_205_220, s_205_221, s_205_224, s_205_225, s_205_226, s_205_227, s_205_230, s_205_231, s_205_234, s_205_235, s_205_236, s_205_237, s_205_238, s_205_239, s_205_240, true_and, and_true, sc0, sc1, sc2, sc3, sc4, Option.toList, List.cons_append, List.nil_append, clr, ne_eq, not_false_eq_true, not_true_eq_false, false_and, and_false, true_or, or_true, or_false, false_or, forall_const, Nat.reduceEqDiff, List.length_nil, List.length_cons, Nat.zero_le, Nat.reduceAdd, Nat.reduceLeDiff, false_implies, true_implies, Int.reduceEq, Int.reduceNe, Int.reduceLT, Int.reduceLE, Int.reduceNeg, Int.reduceToNat, Int.toNat_natCast, Nat.reduceLT, and_self, Decidable.not_not, kR_1, kR_2, kR_3, kR_4, kR_5, kR_6, kR_7, kR_8, kR_9, kR_10, kR_11, kR_12, kR_13, kR_14, kR_15, kR_16, kR_17, kR_18, kR_19, kR_20, kR_21, kR_22, kR_23, pR_0, pR_5, pR_6, pR_8, pR_11, pR_16, pR_17, pR_18, pR_21, pR_22, pR_23, pR_24, pR_26, pR_28, pR_29, pR_30, pR_33, pR_34, pR_35, pR_38, pR_41, pR_42, pR_43, kx, b0, b1, b3, b4, (EqW_o q1), ew', eu', g2, e32', (EqW_o en)]
          refine ih _ ⟨Fr_1 (Fr_o (Fr_o a1 hx1.1 (by simp)) hx1.1 (by simp)) (by simp), fun j hj => ?_, by rw [uM_ne (by decide), uM_ne x16, uM_ne x16]; exact a3, by rw [uM_at, if_pos rfl, if_neg (by decide), uM_ne x1, uM_ne x1]; exact a4, ?_⟩
          · rw [uM_ne hx1.1, uM_at, if_pos rfl]
            by_cases e2 : j = k
            · subst e2
              rw [if_pos rfl]; unfold wrA
              rw [if_pos (by omega), if_pos ⟨by omega, ho⟩]
            rw [if_neg e2, uM_at, if_pos rfl]
            by_cases e : j = 36 + k
            · subst e
              rw [if_pos rfl]; unfold wrA
              rw [if_neg (by omega), if_pos (by omega), if_pos (by omega), Nat.add_sub_cancel_left]
            · rw [if_neg e, a2 j hj]
              unfold wrA
              by_cases h1 : j < 36
              · rw [if_pos h1, if_pos h1]
                simp only [show j < k + 1 ↔ j < k by omega]
              · rw [if_neg h1, if_neg h1]
                simp only [show j - 36 < k + 1 ↔ j - 36 < k by omega]
          · rw [uM_at, if_pos rfl, if_pos rfl, a5, cnt_t ho]; rfl
        · have ho : opS c z n V A B u k = false := by unfold opS; rw [decide_eq_false_iff_not]; exact fun w => g2 w.2
          simp only [s_205_0, s_205_1, s_205_2, s_205_3, s_205_5, s_205_7, s_205_10, s_205_11, s_205_14, s_205_15, s_205_16, s_205_17, s_205_20, s_205_23, s_205_24, s_205_26, s_205_27, s_205_30, s_205_33, s_205_34, s_205_35, s_205_39, s_205_42, s_205_43, s_205_46, s_205_47, s_205_49, s_205_50, s_205_52, s_205_55, s_205_56, s_205_59, s_205_60, s_205_61, s_205_62, s_205_64, s_205_67, s_205_69, s_205_72, s_205_74, s_205_75, s_205_76, s_205_78, s_205_79, s_205_81, s_205_84, s_205_85, s_205_87, s_205_88, s_205_89, s_205_90, s_205_93, s_205_94, s_205_95, s_205_99, s_205_100, s_205_103, s_205_106, s_205_107, s_205_110, s_205_111, s_205_114, s_205_116, s_205_117, s_205_118, s_205_119, s_205_120, s_205_121, s_205_122, s_205_125, s_205_128, s_205_131, s_205_134, s_205_135, s_205_137, s_205_141, s_205_144, s_205_145, s_205_147, s_205_148, s_205_149, s_205_151, s_205_152, s_205_154, s_205_155, s_205_156, s_205_157, s_205_158, s_205_161, s_205_162, s_205_163, s_205_164, s_205_167, s_205_168, s_205_169, s_205_170, s_205_171, s_205_172, s_205_176, s_205_179, s_205_180, s_205_182, s_205_183, s_205_184, s_205_185, s_205_186, s_205_189, s_205_192, s_205_195, s_205_196, s_205_197, s_205_198, s_205_199, s_205_200I, s_205_200, s_205_201, s_205_204, s_205_205, s_205_206, s_205_212, s_205_215, s_205_216I, s_205_216, s_205_217, s_205_220, s_205_221, s_205_224, s_205_225, s_205_226, s_205_227, s_205_230, s_205_231, s_205_234, s_205_235, s_205_236, s_205_237, s_205_238, s_205_239, s_205_240, true_and, and_true, sc0, sc1, sc2, sc3, sc4, Option.toList, List.cons_append, List.nil_append, clr, ne_eq, not_false_eq_true, not_true_eq_false, false_and, and_false, true_or, or_true, or_false, false_or, forall_const, Nat.reduceEqDiff, List.length_nil, List.length_cons, Nat.zero_le, Nat.reduceAdd, Nat.reduceLeDiff, false_implies, true_implies, Int.reduceEq, Int.reduceNe, Int.reduceLT, Int.reduceLE, Int.reduceNeg, Int.reduceToNat, Int.toNat_natCast, Nat.reduceLT, and_self, Decidable.not_not, kR_1, kR_2, kR_3, kR_4, kR_5, kR_6, kR_7, kR_8, kR_9, kR_10, kR_11, kR_12, kR_13, kR_14, kR_15, kR_16, kR_17, kR_18, kR_19, kR_20, kR_21, kR_22, kR_23, pR_0, pR_5, pR_6, pR_8, pR_11, pR_16, pR_17, pR_18, pR_21, pR_22, pR_23, pR_24, pR_26, pR_28, pR_29, pR_30, pR_33, pR_34, pR_35, pR_38, pR_41, pR_42, pR_43, kx, b0, b1, b3, b4, (EqW_o q1), ew', eu', g2]
          exact nop ho
      · have ho : opS c z n V A B u k = false := by unfold opS; rw [decide_eq_false_iff_not]; exact fun w => g1 (by omega)
        rw [if_neg g1]
        simp only [s_205_0, s_205_1, s_205_2, s_205_3, s_205_5, s_205_7, s_205_10, s_205_11, s_205_14, s_205_15, s_205_16, s_205_17, s_205_20, s_205_23, s_205_24, s_205_26, s_205_27, s_205_30, s_205_33, s_205_34, s_205_35, s_205_39, s_205_42, s_205_43, s_205_46, s_205_47, s_205_49, s_205_50, s_205_52, s_205_55, s_205_56, s_205_59, s_205_60, s_205_61, s_205_62, s_205_64, s_205_67, s_205_69, s_205_72, s_205_74, s_205_75, s_205_76, s_205_78, s_205_79, s_205_81, s_205_84, s_205_85, s_205_87, s_205_88, s_205_89, s_205_90, s_205_93, s_205_94, s_205_95, s_205_99, s_205_100, s_205_103, s_205_106, s_205_107, s_205_110, s_205_111, s_205_114, s_205_116, s_205_117, s_205_118, s_205_119, s_205_120, s_205_121, s_205_122, s_205_125, s_205_128, s_205_131, s_205_134, s_205_135, s_205_137, s_205_141, s_205_144, s_205_145, s_205_147, s_205_148, s_205_149, s_205_151, s_205_152, s_205_154, s_205_155, s_205_156, s_205_157, s_205_158, s_205_161, s_205_162, s_205_163, s_205_164, s_205_167, s_205_168, s_205_169, s_205_170, s_205_171, s_205_172, s_205_176, s_205_179, s_205_180, s_205_182, s_205_183, s_205_184, s_205_185, s_205_186, s_205_189, s_205_192, s_205_195, s_205_196, s_205_197, s_205_198, s_205_199, s_205_200I, s_205_200, s_205_201, s_205_204, s_205_205, s_205_206, s_205_212, s_205_215, s_205_216I, s_205_216, s_205_217, s_205_220, s_205_221, s_205_224, s_205_225, s_205_226, s_205_227, s_205_230, s_205_231, s_205_234, s_205_235, s_205_236, s_205_237, s_205_238, s_205_239, s_205_240, true_and, and_true, sc0, sc1, sc2, sc3, sc4, Option.toList, List.cons_append, List.nil_append, clr, ne_eq, not_false_eq_true, not_true_eq_false, false_and, and_false, true_or, or_true, or_false, false_or, forall_const, Nat.reduceEqDiff, List.length_nil, List.length_cons, Nat.zero_le, Nat.reduceAdd, Nat.reduceLeDiff, false_implies, true_implies, Int.reduceEq, Int.reduceNe, Int.reduceLT, Int.reduceLE, Int.reduceNeg, Int.reduceToNat, Int.toNat_natCast, Nat.reduceLT, and_self, Decidable.not_not, kR_1, kR_2, kR_3, kR_4, kR_5, kR_6, kR_7, kR_8, kR_9, kR_10, kR_11, kR_12, kR_13, kR_14, kR_15, kR_16, kR_17, kR_18, kR_19, kR_20, kR_21, kR_22, kR_23, pR_0, pR_5, pR_6, pR_8, pR_11, pR_16, pR_17, pR_18, pR_21, pR_22, pR_23, pR_24, pR_26, pR_28, pR_29, pR_30, pR_33, pR_34, pR_35, pR_38, pR_41, pR_42, pR_43]
        exact nop ho
  -- the goers
  have k2 : ∀ (rd : Nat) (N : MM) (l3 l4 l5 l6 : Option PV), Fr (31 :: 32 :: SPl) (16 :: x :: TPl) M N → ArR N x A → (∀ f, f < z → N 16 f = 0) → N 1 31 = M 1 31 → N 1 32 = M 1 32 → wpB (Ev d) 205 Q X 23 [some (pR 1), some (pR x), some (pI 0), l3, l4, l5, l6] [] (kz LR) (PR rd ru) N := by
    intro rd N l3 l4 l5 l6 hFr hAr h16 h31 h32
    simp only [s_205_0, s_205_1, s_205_2, s_205_3, s_205_5, s_205_7, s_205_10, s_205_11, s_205_14, s_205_15, s_205_16, s_205_17, s_205_20, s_205_23, s_205_24, s_205_26, s_205_27, s_205_30, s_205_33, s_205_34, s_205_35, s_205_39, s_205_42, s_205_43, s_205_46, s_205_47, s_205_49, s_205_50, s_205_52, s_205_55, s_205_56, s_205_59, s_205_60, s_205_61, s_205_62, s_205_64, s_205_67, s_205_69, s_205_72, s_205_74, s_205_75, s_205_76, s_205_78, s_205_79, s_205_81, s_205_84, s_205_85, s_205_87, s_205_88, s_205_89, s_205_90, s_205_93, s_205_94, s_205_95, s_205_99, s_205_100, s_205_103, s_205_106, s_205_107, s_205_110, s_205_111, s_205_114, s_205_116, s_205_117, s_205_118, s_205_119, s_205_120, s_205_121, s_205_122, s_205_125, s_205_128, s_205_131, s_205_134, s_205_135, s_205_137, s_205_141, s_205_144, s_205_145, s_205_147, s_205_148, s_205_149, s_205_151, s_205_152, s_205_154, s_205_155, s_205_156, s_205_157, s_205_158, s_205_161, s_205_162, s_205_163, s_205_164, s_205_167, s_205_168, s_205_169, s_205_170, s_205_171, s_205_172, s_205_176, s_205_179, s_205_180, s_205_182, s_205_183, s_205_184, s_205_185, s_205_186, s_205_189, s_205_192, s_205_195, s_205_196, s_205_197, s_205_198, s_205_199, s_205_200I, s_205_200, s_205_201, s_205_204, s_205_205, s_205_206, s_205_209, s_205_212, s_205_215, s_205_216I, s_205_216, s_205_217, s_205_220, s_205_221, s_205_224, s_205_225, s_205_226, s_205_227, s_205_230, s_205_231, s_205_234, s_205_235, s_205_236, s_205_237, s_205_238, s_205_239, s_205_240, true_and, and_true, sc0, sc1, sc2, sc3, sc4, Option.toList, List.cons_append, List.nil_append, clr, ne_eq, not_false_eq_true, not_true_eq_false, false_and, and_false, true_or, or_true, or_false, false_or, forall_const, Nat.reduceEqDiff, List.length_nil, List.length_cons, Nat.zero_le, Nat.reduceAdd, Nat.reduceLeDiff, false_implies, true_implies, Int.reduceEq, Int.reduceNe, Int.reduceLT, Int.reduceLE, Int.reduceNeg, Int.reduceToNat, Int.toNat_natCast, Nat.reduceLT, and_self, Decidable.not_not, kR_1, kR_2, kR_3, kR_4, kR_5, kR_6, kR_7, kR_8, kR_9, kR_10, kR_11, kR_12, kR_13, kR_14, kR_15, kR_16, kR_17, kR_18, kR_19, kR_20, kR_21, kR_22, kR_23, pR_0, pR_5, pR_6, pR_8, pR_11, pR_16, pR_17, pR_18, pR_21, pR_22, pR_23, pR_24, pR_26, pR_28, pR_29, pR_30, pR_33, pR_34, pR_35, pR_38, pR_41, pR_42, pR_43]
    refine lup (α := Nat × MM × Option PV × Option PV × Option PV) (I := fun i y => Fr (31 :: 32 :: SPl) (16 :: x :: TPl) M y.2.1 ∧ ArR y.2.1 x (cmA c z V B A i) ∧ (∀ f, f < z → y.2.1 16 f = (cnt (fun g => onS c z V A B g f) i : Int)) ∧ y.2.1 1 31 = M 1 31 ∧ y.2.1 1 32 = M 1 32) (G := fun i y => wpB (Ev d) 205 Q X 25 [some (pR 1), some (pR x), some (pI (cnt (fun g => decide (hpS c z V A B g)) i : Int)), some (pI (i : Int)), y.2.2.1, y.2.2.2.1, y.2.2.2.2] [] (kz LR) (PR y.1 ru) y.2.1) n (fun y hy => ?_) (fun i y hi hy ih => ?_) 0 (rd, N, l4, l5, l6) (Nat.zero_le _) ⟨hFr, by rw [cm_0]; exact hAr, h16, h31, h32⟩
    · obtain ⟨rd1, K, y4, y5, y6⟩ := y
      obtain ⟨a1, a2, a3, a4, a5⟩ := hy
      dsimp only at a1 a2 a3 a4 a5 ⊢
      have e3 : K 1 3 = (n : Int) := by rw [a1.1 3 (by simp [SPl])]; exact hE.1.2.2.1
      rw [s_205_25]
      simp only [s_205_0, s_205_1, s_205_2, s_205_3, s_205_5, s_205_7, s_205_10, s_205_11, s_205_14, s_205_15, s_205_16, s_205_17, s_205_20, s_205_23, s_205_24, s_205_26, s_205_27, s_205_30, s_205_33, s_205_34, s_205_35, s_205_39, s_205_42, s_205_43, s_205_46, s_205_47, s_205_49, s_205_50, s_205_52, s_205_55, s_205_56, s_205_59, s_205_60, s_205_61, s_205_62, s_205_64, s_205_67, s_205_69, s_205_72, s_205_74, s_205_75, s_205_76, s_205_78, s_205_79, s_205_81, s_205_84, s_205_85, s_205_87, s_205_88, s_205_89, s_205_90, s_205_93, s_205_94, s_205_95, s_205_99, s_205_100, s_205_103, s_205_106, s_205_107, s_205_110, s_205_111, s_205_114, s_205_116, s_205_117, s_205_118, s_205_119, s_205_120, s_205_121, s_205_122, s_205_125, s_205_128, s_205_131, s_205_135, s_205_137, s_205_141, s_205_144, s_205_145, s_205_147, s_205_148, s_205_149, s_205_151, s_205_152, s_205_154, s_205_155, s_205_156, s_205_157, s_205_158, s_205_161, s_205_162, s_205_163, s_205_164, s_205_167, s_205_168, s_205_169, s_205_170, s_205_171, s_205_172, s_205_176, s_205_179, s_205_180, s_205_182, s_205_183, s_205_184, s_205_185, s_205_186, s_205_189, s_205_192, s_205_195, s_205_196, s_205_197, s_205_198, s_205_199, s_205_200I, s_205_200, s_205_201, s_205_204, s_205_205, s_205_206, s_205_209, s_205_212, s_205_215, s_205_216I, s_205_216, s_205_217, s_205_220, s_205_221, s_205_224, s_205_225, s_205_226, s_205_227, s_205_230, s_205_231, s_205_234, s_205_235, s_205_236, s_205_237, s_205_238, s_205_239, s_205_240, true_and, and_true, sc0, sc1, sc2, sc3, sc4, Option.toList, List.cons_append, List.nil_append, clr, ne_eq, not_false_eq_true, not_true_eq_false, false_and, and_false, true_or, or_true, or_false, false_or, forall_const, Nat.reduceEqDiff, List.length_nil, List.length_cons, Nat.zero_le, Nat.reduceAdd, Nat.reduceLeDiff, false_implies, true_implies, Int.reduceEq, Int.reduceNe, Int.reduceLT, Int.reduceLE, Int.reduceNeg, Int.reduceToNat, Int.toNat_natCast, Nat.reduceLT, and_self, Decidable.not_not, kR_1, kR_2, kR_3, kR_4, kR_5, kR_6, kR_7, kR_8, kR_9, kR_10, kR_11, kR_12, kR_13, kR_14, kR_15, kR_16, kR_17, kR_18, kR_19, kR_20, kR_21, kR_22, kR_23, pR_0, pR_5, pR_6, pR_8, pR_11, pR_16, pR_17, pR_18, pR_21, pR_22, pR_23, pR_24, pR_26, pR_28, pR_29, pR_30, pR_33, pR_34, pR_35, pR_38, pR_41, pR_42, pR_43, e3, Int.le_refl]
      exact k3 rd1 K _ _ _ _ a1 a2 a3 a4 a5
    · obtain ⟨rd1, K, y4, y5, y6⟩ := y
      obtain ⟨a1, a2, a3, a4, a5⟩ := hy
      dsimp only at a1 a2 a3 a4 a5 ⊢
      have e3 : K 1 3 = (n : Int) := by rw [a1.1 3 (by simp [SPl])]; exact hE.1.2.2.1
      have e0 : ¬ (n : Int) ≤ (i : Int) := by omega
      have en := EqW_i (w32n (show i < 1000000 by omega))
      have hEK := EnR_fr hE a1 (by decide) ⟨by simp [TPl]; omega, by simp [TPl]; omega⟩
      obtain ⟨v, P', K2, hE1, ⟨rd2, rfl⟩, hv, hF1, w1, w2⟩ := r_pathOf (rd := rd1) hEK hx a2 (SnV_cm hV hz.2) hi d (by omega)
      have ehF : hF V (cmA c z V B A i) i = hF V A i := cm_h (by omega)
      have eg : cmA c z V B A i (108 + i) = A (108 + i) := cm_lt (by omega)
      have ev : vS c z V (cmA c z V B A i) B i = vS c z V A B i := by show pV _ _ (hF V (cmA c z V B A i) i) _ (cmA c z V B A i (108 + i)).toNat = _; rw [ehF, eg]
      have enS : nS c z V (cmA c z V B A i) B i = nS c z V A B i := by show pN _ _ (hF V (cmA c z V B A i) i) _ (cmA c z V B A i (108 + i)).toNat = _; rw [ehF, eg]
      have ewS : ∀ k, wS c z V (cmA c z V B A i) B i k = wS c z V A B i k := fun k => by show pW _ _ (hF V (cmA c z V B A i) i) _ (cmA c z V B A i (108 + i)).toNat k = _; rw [ehF, eg]
      rw [ev] at hv
      rw [enS] at w1 w2
      simp only [ewS] at w2
      subst hv
      have hnl := nS_le (V := V) hL hV hi
      have hFK2 : Fr (31 :: 32 :: SPl) (16 :: x :: TPl) M K2 := Fr_trans a1 (Fr_mono hF1 (fun j hj => List.mem_cons_of_mem _ (List.mem_cons_of_mem _ hj)) (fun j hj => List.mem_cons_of_mem _ (List.mem_cons_of_mem _ hj)))
      have hA2 : ArR K2 x (cmA c z V B A i) := ArR_fr a2 hF1 hx1.1 hxT
      have h16b : K2 16 = K 16 := hF1.2 16 (by decide) (by simp [TPl])
      have h31b : K2 1 31 = M 1 31 := by rw [hF1.1 31 (by simp [SPl])]; exact a4
      have h32b : K2 1 32 = M 1 32 := by rw [hF1.1 32 (by simp [SPl])]; exact a5
      have x1 : ¬ (1 : Nat) = x := fun e => hx1.1 e.symm
      have x16 : ¬ (16 : Nat) = x := fun e => hx1.2.2.1 e.symm
      have x12 : ¬ (12 : Nat) = x := fun e => hxT (by rw [← e]; simp [TPl])
      -- the way is trodden
      have tr : ∀ (K3 : MM) (l4 : Option PV) (l5 : Int) (l6 : Option PV), Fr (31 :: 32 :: SPl) (16 :: x :: TPl) M K3 → ArR K3 x (cmA c z V B A (i + 1)) → K3 16 = K 16 → K3 12 = K2 12 → K3 1 25 = (nS c z V A B i : Int) → K3 1 31 = M 1 31 → K3 1 32 = M 1 32 → wpB (Ev d) 205 Q X 94 [some (pR 1), some (pR x), some (pI (cnt (fun g => decide (hpS c z V A B g)) (i + 1) : Int)), some (pI (i : Int)), l4, some (pI l5), l6] [] (kz LR) (PR rd2 ru) K3 := by
        intro K3 l4 l5 l6 b1 b2 b3 b4 b5 b6 b7
        simp only [s_205_0, s_205_1, s_205_2, s_205_3, s_205_5, s_205_7, s_205_10, s_205_11, s_205_14, s_205_15, s_205_16, s_205_17, s_205_20, s_205_23, s_205_24, s_205_26, s_205_27, s_205_30, s_205_33, s_205_34, s_205_35, s_205_39, s_205_42, s_205_43, s_205_46, s_205_47, s_205_49, s_205_50, s_205_52, s_205_55, s_205_56, s_205_59, s_205_60, s_205_61, s_205_62, s_205_64, s_205_67, s_205_69, s_205_72, s_205_74, s_205_75, s_205_76, s_205_78, s_205_79, s_205_81, s_205_84, s_205_85, s_205_87, s_205_88, s_205_89, s_205_90, s_205_93, s_205_94, s_205_95, s_205_99, s_205_100, s_205_103, s_205_106, s_205_107, s_205_110, s_205_111, s_205_114, s_205_116, s_205_117, s_205_118, s_205_119, s_205_120, s_205_121, s_205_122, s_205_125, s_205_128, s_205_131, s_205_134, s_205_135, s_205_137, s_205_141, s_205_144, s_205_145, s_205_147, s_205_148, s_205_149, s_205_151, s_205_152, s_205_154, s_205_155, s_205_156, s_205_157, s_205_158, s_205_161, s_205_162, s_205_163, s_205_164, s_205_167, s_205_168, s_205_169, s_205_170, s_205_171, s_205_172, s_205_176, s_205_179, s_205_180, s_205_182, s_205_183, s_205_184, s_205_185, s_205_186, s_205_189, s_205_192, s_205_195, s_205_196, s_205_197, s_205_198, s_205_199, s_205_200I, s_205_200, s_205_201, s_205_204, s_205_205, s_205_206, s_205_209, s_205_212, s_205_215, s_205_216I, s_205_216, s_205_217, s_205_220, s_205_221, s_205_224, s_205_225, s_205_226, s_205_227, s_205_230, s_205_231, s_205_234, s_205_235, s_205_236, s_205_237, s_205_238, s_205_239, s_205_240, true_and, and_true, sc0, sc1, sc2, sc3, sc4, Option.toList, List.cons_append, List.nil_append, clr, ne_eq, not_false_eq_true, not_true_eq_false, false_and, and_false, true_or, or_true, or_false, false_or, forall_const, Nat.reduceEqDiff, List.length_nil, List.length_cons, Nat.zero_le, Nat.reduceAdd, Nat.reduceLeDiff, false_implies, true_implies, Int.reduceEq, Int.reduceNe, Int.reduceLT, Int.reduceLE, Int.reduceNeg, Int.reduceToNat, Int.toNat_natCast, Nat.reduceLT, and_self, Decidable.not_not, kR_1, kR_2, kR_3, kR_4, kR_5, kR_6, kR_7, kR_8, kR_9, kR_10, kR_11, kR_12, kR_13, kR_14, kR_15, kR_16, kR_17, kR_18, kR_19, kR_20, kR_21, kR_22, kR_23, pR_0, pR_5, pR_6, pR_8, pR_11, pR_16, pR_17, pR_18, pR_21, pR_22, pR_23, pR_24, pR_26, pR_28, pR_29, pR_30, pR_33, pR_34, pR_35, pR_38, pR_41, pR_42, pR_43]
        refine lup (α := MM) (I := fun k J => Fr (31 :: 32 :: SPl) (16 :: x :: TPl) M J ∧ (∀ p, p ≠ 16 → J p = K3 p) ∧ ∀ f, f < z → J 16 f = K 16 f + (if ∃ e, e < k ∧ wS c z V A B i e = f then 1 else 0)) (G := fun k J => wpB (Ev d) 205 Q X 97 [some (pR 1), some (pR x), some (pI (cnt (fun g => decide (hpS c z V A B g)) (i + 1) : Int)), some (pI (i : Int)), l4, some (pI l5), some (pI (k : Int))] [] (kz LR) (PR rd2 ru) J) (nS c z V A B i) (fun J hJ => ?_) (fun k J hk hJ ihk => ?_) 0 K3 (Nat.zero_le _) ⟨b1, fun _ _ => rfl, fun f hf => by rw [b3]; simp⟩
        · obtain ⟨j1, j2, j3⟩ := hJ
          have e25 : J 1 25 = (nS c z V A B i : Int) := by rw [j2 1 (by decide)]; exact b5
          rw [s_205_97]
          simp only [s_205_0, s_205_1, s_205_2, s_205_3, s_205_5, s_205_7, s_205_10, s_205_11, s_205_14, s_205_15, s_205_16, s_205_17, s_205_20, s_205_23, s_205_24, s_205_26, s_205_27, s_205_30, s_205_33, s_205_34, s_205_35, s_205_39, s_205_42, s_205_43, s_205_46, s_205_47, s_205_49, s_205_50, s_205_52, s_205_55, s_205_56, s_205_59, s_205_60, s_205_61, s_205_62, s_205_64, s_205_67, s_205_69, s_205_72, s_205_74, s_205_75, s_205_76, s_205_78, s_205_79, s_205_81, s_205_84, s_205_85, s_205_87, s_205_88, s_205_89, s_205_90, s_205_93, s_205_94, s_205_95, s_205_99, s_205_100, s_205_103, s_205_106, s_205_107, s_205_110, s_205_111, s_205_114, s_205_116, s_205_117, s_205_118, s_205_119, s_205_120, s_205_121, s_205_122, s_205_125, s_205_128, s_205_131, s_205_134, s_205_135, s_205_137, s_205_141, s_205_144, s_205_145, s_205_147, s_205_148, s_205_149, s_205_151, s_205_152, s_205_154, s_205_155, s_205_156, s_205_157, s_205_158, s_205_161, s_205_162, s_205_163, s_205_164, s_205_167, s_205_168, s_205_169, s_205_170, s_205_171, s_205_172, s_205_176, s_205_179, s_205_180, s_205_182, s_205_183, s_205_184, s_205_185, s_205_186, s_205_189, s_205_192, s_205_195, s_205_196, s_205_197, s_205_198, s_205_199, s_205_200I, s_205_200, s_205_201, s_205_204, s_205_205, s_205_206, s_205_209, s_205_212, s_205_215, s_205_216I, s_205_216, s_205_217, s_205_220, s_205_221, s_205_224, s_205_225, s_205_226, s_205_227, s_205_230, s_205_231, s_205_234, s_205_235, s_205_236, s_205_237, s_205_238, s_205_239, s_205_240, true_and, and_true, sc0, sc1, sc2, sc3, sc4, Option.toList, List.cons_append, List.nil_append, clr, ne_eq, not_false_eq_true, not_true_eq_false, false_and, and_false, true_or, or_true, or_false, false_or, forall_const, Nat.reduceEqDiff, List.length_nil, List.length_cons, Nat.zero_le, Nat.reduceAdd, Nat.reduceLeDiff, false_implies, true_implies, Int.reduceEq, Int.reduceNe, Int.reduceLT, Int.reduceLE, Int.reduceNeg, Int.reduceToNat, Int.toNat_natCast, Nat.reduceLT, and_self, Decidable.not_not, kR_1, kR_2, kR_3, kR_4, kR_5, kR_6, kR_7, kR_8, kR_9, kR_10, kR_11, kR_12, kR_13, kR_14, kR_15, kR_16, kR_17, kR_18, kR_19, kR_20, kR_21, kR_22, kR_23, pR_0, pR_5, pR_6, pR_8, pR_11, pR_16, pR_17, pR_18, pR_21, pR_22, pR_23, pR_24, pR_26, pR_28, pR_29, pR_30, pR_33, pR_34, pR_35, pR_38, pR_41, pR_42, pR_43, e25, Int.le_refl, (EqW_o en)]
          refine ih (rd2, J, _, _, _) ⟨j1, fun j hj => by show J x j = _; rw [j2 x hx1.2.2.1]; exact b2 j hj, fun f hf => ?_, by show J 1 31 = _; rw [j2 1 (by decide)]; exact b6, by show J 1 32 = _; rw [j2 1 (by decide)]; exact b7⟩
          show J 16 f = _
          rw [j3 f hf, a3 f hf]
          by_cases ho : onS c z V A B i f = true
          · have hex : ∃ e, e < nS c z V A B i ∧ wS c z V A B i e = f := by unfold onS onW at ho; simpa using ho
            rw [if_pos hex, cnt_t (p := fun g => onS c z V A B g f) ho]; rfl
          · have hex : ¬ ∃ e, e < nS c z V A B i ∧ wS c z V A B i e = f := by
              intro w; apply ho; unfold onS onW; simpa using w
            rw [if_neg hex, cnt_f (p := fun g => onS c z V A B g f) (by simpa using ho), Int.add_zero]
        · obtain ⟨j1, j2, j3⟩ := hJ
          have e25 : J 1 25 = (nS c z V A B i : Int) := by rw [j2 1 (by decide)]; exact b5
          have e12 : J 12 k = (wS c z V A B i k : Int) := by rw [j2 12 (by decide), b4]; exact w2 k hk
          have hp : hpS c z V A B i := by
            apply Classical.byContradiction
            intro w
            have h0 : nS c z V A B i = 0 := pN_0.mpr w
            omega
          have hsz : (B i).toNat < z := by have := (hV.2.2.1 i hi).1; omega
          obtain ⟨m, p1, p2, p3, p4, p5, p6, p7⟩ := pP hL hF_H hsz hp
          have p1' : nS c z V A B i = m + 1 := p1
          have hwz : wS c z V A B i k < z := (p5 k (by omega)).1
          have e0k : ¬ (nS c z V A B i : Int) ≤ (k : Int) := by omega
          have ek := EqW_i (w32n (show k < 1000000 by omega))
          have c0 : (0 : Int) ≤ (k : Int) := by omega
          have c1 : (k : Int) < ((36 : Nat) : Int) := by omega
          have c2 : (0 : Int) ≤ (wS c z V A B i k : Int) := by omega
          have c3 : (wS c z V A B i k : Int) < ((36 : Nat) : Int) := by omega
          have hold : J 16 (wS c z V A B i k) = (cnt (fun g => onS c z V A B g (wS c z V A B i k)) i : Int) := by
            rw [j3 _ hwz, a3 _ hwz, if_neg (by
              rintro ⟨e, he, h9⟩
              exact p7 e k he (by omega) h9), Int.add_zero]
          have hcl := cnt_le (fun g => onS c z V A B g (wS c z V A B i k)) i
          have wq : EqW (w32 ((cnt (fun g => onS c z V A B g (wS c z V A B i k)) i : Int) + 1)) ((cnt (fun g => onS c z V A B g (wS c z V A B i k)) i : Int) + 1) := EqW_i <| w32s (by omega)
          rw [s_205_97]
          simp only [s_205_0, s_205_1, s_205_2, s_205_3, s_205_5, s_205_7, s_205_10, s_205_11, s_205_14, s_205_15, s_205_16, s_205_17, s_205_20, s_205_23, s_205_24, s_205_26, s_205_27, s_205_30, s_205_33, s_205_34, s_205_35, s_205_39, s_205_42, s_205_43, s_205_46, s_205_47, s_205_49, s_205_50, s_205_52, s_205_55, s_205_56, s_205_59, s_205_60, s_205_61, s_205_62, s_205_64, s_205_67, s_205_69, s_205_72, s_205_74, s_205_75, s_205_76, s_205_78, s_205_79, s_205_81, s_205_84, s_205_85, s_205_87, s_205_88, s_205_89, s_205_90, s_205_93, s_205_94, s_205_95, s_205_99, s_205_100, s_205_103, s_205_106, s_205_107, s_205_110, s_205_111, s_205_114, s_205_116, s_205_117, s_205_118, s_205_119, s_205_120, s_205_121, s_205_122, s_205_125, s_205_128, s_205_131, s_205_134, s_205_135, s_205_137, s_205_141, s_205_144, s_205_145, s_205_147, s_205_148, s_205_149, s_205_151, s_205_152, s_205_154, s_205_155, s_205_156, s_205_157, s_205_158, s_205_161, s_205_162, s_205_163, s_205_164, s_205_167, s_205_168, s_205_169, s_205_170, s_205_171, s_205_172, s_205_176, s_205_179, s_205_180, s_205_182, s_205_183, s_205_184, s_205_185, s_205_186, s_205_189, s_205_192, s_205_195, s_205_196, s_205_197, s_205_198, s_205_199, s_205_200I, s_205_200, s_205_201, s_205_204, s_205_205, s_205_206, s_205_209, s_205_212, s_205_215, s_205_216I, s_205_216, s_205_217, s_205_220, s_205_221, s_205_224, s_205_225, s_205_226, s_205_227, s_205_230, s_205_231, s_205_234, s_205_235, s_205_236, s_205_237, s_205_238, s_205_239, s_205_240, true_and, and_true, sc0, sc1, sc2, sc3, sc4, Option.toList, List.cons_append, List.nil_append, clr, ne_eq, not_false_eq_true, not_true_eq_false, false_and, and_false, true_or, or_true, or_false, false_or, forall_const, Nat.reduceEqDiff, List.length_nil, List.length_cons, Nat.zero_le, Nat.reduceAdd, Nat.reduceLeDiff, false_implies, true_implies, Int.reduceEq, Int.reduceNe, Int.reduceLT, Int.reduceLE, Int.reduceNeg, Int.reduceToNat, Int.toNat_natCast, Nat.reduceLT, and_self, Decidable.not_not, kR_1, kR_2, kR_3, kR_4, kR_5, kR_6, kR_7, kR_8, kR_9, kR_10, kR_11, kR_12, kR_13, kR_14, kR_15, kR_16, kR_17, kR_18, kR_19, kR_20, kR_21, kR_22, kR_23, pR_0, pR_5, pR_6, pR_8, pR_11, pR_16, pR_17, pR_18, pR_21, pR_22, pR_23, pR_24, pR_26, pR_28, pR_29, pR_30, pR_33, pR_34, pR_35, pR_38, pR_41, pR_42, pR_43, e25, e0k, e12, c0, c1, c2, c3, hold, (EqW_o wq), (EqW_o ek)]
          refine ihk _ ⟨Fr_o j1 (by decide) (by simp), fun p hp9 => by rw [uM_ne hp9]; exact j2 p hp9, fun f hf => ?_⟩
          rw [uM_at, if_pos rfl]
          by_cases e : f = wS c z V A B i k
          · subst e
            rw [if_pos rfl, if_pos ⟨k, by omega, rfl⟩, a3 _ hwz]
          · rw [if_neg e, j3 f hf]
            have : (∃ e9, e9 < k + 1 ∧ wS c z V A B i e9 = f) ↔ (∃ e9, e9 < k ∧ wS c z V A B i e9 = f) := by
              constructor
              · rintro ⟨e9, h1, h2⟩
                by_cases h3 : e9 = k
                · subst h3; exact absurd h2.symm e
                · exact ⟨e9, by omega, h2⟩
              · rintro ⟨e9, h1, h2⟩
                exact ⟨e9, by omega, h2⟩
            simp only [this]
      have hcm : ∀ v : Int, v = (if hpS c z V A B i then 120 else 126) → w32 (v + (i : Int)) = (((if hpS c z V A B i then 120 else 126) + i : Nat) : Int) := by
        intro v hv
        rw [hv]
        split
        · unfold w32; omega
        · unfold w32; omega
      have hix : (if hpS c z V A B i then 120 else 126) + i < 133 := by split <;> omega
      have eA : K2 x ((if hpS c z V A B i then 120 else 126) + i) = A ((if hpS c z V A B i then 120 else 126) + i) := by rw [hA2 _ hix, cm_at (by omega)]
      have hmn : EqW (if w32 (A ((if hpS c z V A B i then 120 else 126) + i) + 1) < 999 then w32 (A ((if hpS c z V A B i then 120 else 126) + i) + 1) else 999) (mn9 999 (w32 (A ((if hpS c z V A B i then 120 else 126) + i) + 1))) := EqW_i rfl
      have upd := tr (uM K2 x ((if hpS c z V A B i then 120 else 126) + i) (mn9 999 (w32 (A ((if hpS c z V A B i then 120 else 126) + i) + 1))))
      have upd2 := fun l4 l5 l6 => upd l4 l5 l6 (Fr_o hFK2 hx1.1 (by simp)) (fun j hj => by
        rw [uM_at, if_pos rfl, ← cm_s (show i < 6 by omega)]
        by_cases e : j = (if hpS c z V A B i then 120 else 126) + i
        · rw [if_pos e, if_pos e, e]
        · rw [if_neg e, if_neg e]; exact hA2 j hj) (by rw [uM_ne x16]; exact h16b) (by rw [uM_ne x12]) (by rw [uM_ne x1]; exact w1) (by rw [uM_ne x1]; exact h31b) (by rw [uM_ne x1]; exact h32b)
      clear upd tr
      have hcl := cnt_le (fun g => decide (hpS c z V A B g)) i
      rw [s_205_25]
      simp only [s_205_0, s_205_1, s_205_2, s_205_3, s_205_5, s_205_7, s_205_10, s_205_11, s_205_14, s_205_15, s_205_16, s_205_17, s_205_20, s_205_23, s_205_24, s_205_26, s_205_27, s_205_30, s_205_33, s_205_34, s_205_35, s_205_39, s_205_42, s_205_43, s_205_46, s_205_47, s_205_49, s_205_50, s_205_52, s_205_55, s_205_56, s_205_59, s_205_60, s_205_61, s_205_62, s_205_64, s_205_67, s_205_69, s_205_72, s_205_74, s_205_75, s_205_76, s_205_78, s_205_79, s_205_81, s_205_84, s_205_85, s_205_87, s_205_88, s_205_89, s_205_90, s_205_93, s_205_94, s_205_95, s_205_99, s_205_100, s_205_103, s_205_106, s_205_107, s_205_110, s_205_111, s_205_114, s_205_116, s_205_117, s_205_118, s_205_119, s_205_120, s_205_121, s_205_122, s_205_125, s_205_128, s_205_131, s_205_134, s_205_135, s_205_137, s_205_141, s_205_144, s_205_145, s_205_147, s_205_148, s_205_149, s_205_151, s_205_152, s_205_154, s_205_155, s_205_156, s_205_157, s_205_158, s_205_161, s_205_162, s_205_163, s_205_164, s_205_167, s_205_168, s_205_169, s_205_170, s_205_171, s_205_172, s_205_176, s_205_179, s_205_180, s_205_182, s_205_183, s_205_184, s_205_185, s_205_186, s_205_189, s_205_192, s_205_195, s_205_196, s_205_197, s_205_198, s_205_199, s_205_200I, s_205_200, s_205_201, s_205_204, s_205_205, s_205_206, s_205_209, s_205_212, s_205_215, s_205_216I, s_205_216, s_205_217, s_205_220, s_205_221, s_205_224, s_205_225, s_205_226, s_205_227, s_205_230, s_205_231, s_205_234, s_205_235, s_205_236, s_205_237, s_205_238, s_205_239, s_205_240, true_and, and_true, sc0, sc1, sc2, sc3, sc4, Option.toList, List.cons_append, List.nil_append, clr, ne_eq, not_false_eq_true, not_true_eq_false, false_and, and_false, true_or, or_true, or_false, false_or, forall_const, Nat.reduceEqDiff, List.length_nil, List.length_cons, Nat.zero_le, Nat.reduceAdd, Nat.reduceLeDiff, false_implies, true_implies, Int.reduceEq, Int.reduceNe, Int.reduceLT, Int.reduceLE, Int.reduceNeg, Int.reduceToNat, Int.toNat_natCast, Nat.reduceLT, and_self, Decidable.not_not, kR_1, kR_2, kR_3, kR_4, kR_5, kR_6, kR_7, kR_8, kR_9, kR_10, kR_11, kR_12, kR_13, kR_14, kR_15, kR_16, kR_17, kR_18, kR_19, kR_20, kR_21, kR_22, kR_23, pR_0, pR_5, pR_6, pR_8, pR_11, pR_16, pR_17, pR_18, pR_21, pR_22, pR_23, pR_24, pR_26, pR_28, pR_29, pR_30, pR_33, pR_34, pR_35, pR_38, pR_41, pR_42, pR_43, e3, e0]
      refine s_205_36 (Nat.le_of_ble_eq_true rfl) kR_1 hE1 ?_
      by_cases hp : hpS c z V A B i
      · have g1 : ¬ vS c z V A B i < 0 := fun w => (vS_neg hL hV hi).mp w hp
        have hcm2 := EqW_i (hcm 120 (by rw [if_pos hp]))
        rw [if_pos hp] at eA hmn hcm2 hix
        simp only [if_pos hp] at upd2
        have ct : EqW (w32 ((cnt (fun g => decide (hpS c z V A B g)) i : Int) + 1)) ((cnt (fun g => decide (hpS c z V A B g)) (i + 1) : Int)) := EqW_i <| by
          rw [cnt_t (decide_eq_true hp), w32s (by omega)]; rfl
        have b0 : (0 : Int) ≤ ((120 + i : Nat) : Int) := by omega
        have b1 : ((120 + i : Nat) : Int) < ((133 : Nat) : Int) := by omega
        simp only [s_205_0, s_205_1, s_205_2, s_205_3, s_205_5, s_205_7, s_205_10, s_205_11, s_205_14, s_205_15, s_205_16, s_205_17, s_205_20, s_205_23, s_205_24, s_205_26, s_205_27, s_205_30, s_205_33, s_205_34, s_205_35, s_205_39, s_205_42, s_205_43, s_205_46, s_205_47, s_205_49, s_205_50, s_205_52, s_205_55, s_205_56, s_205_59, s_205_60, s_205_61, s_205_62, s_205_64, s_205_67, s_205_69, s_205_72, s_205_74, s_205_75, s_205_76, s_205_78, s_205_79, s_205_81, s_205_84, s_205_85, s_205_87, s_205_88, s_205_89, s_205_90, s_205_93, s_205_95, s_205_99, s_205_100, s_205_103, s_205_106, s_205_107, s_205_110, s_205_111, s_205_114, s_205_116, s_205_117, s_205_118, s_205_119, s_205_120, s_205_121, s_205_122, s_205_125, s_205_128, s_205_131, s_205_134, s_205_135, s_205_137, s_205_141, s_205_144, s_205_145, s_205_147, s_205_148, s_205_149, s_205_151, s_205_152, s_205_154, s_205_155, s_205_156, s_205_157, s_205_158, s_205_161, s_205_162, s_205_163, s_205_164, s_205_167, s_205_168, s_205_169, s_205_170, s_205_171, s_205_172, s_205_176, s_205_179, s_205_180, s_205_182, s_205_183, s_205_184, s_205_185, s_205_186, s_205_189, s_205_192, s_205_195, s_205_196, s_205_197, s_205_198, s_205_199, s_205_200I, s_205_200, s_205_201, s_205_204, s_205_205, s_205_206, s_205_209, s_205_212, s_205_215, s_205_216I, s_205_216, s_205_217, s_205_220, s_205_221, s_205_224, s_205_225, s_205_226, s_205_227, s_205_230, s_205_231, s_205_234, s_205_235, s_205_236, s_205_237, s_205_238, s_205_239, s_205_240, true_and, and_true, sc0, sc1, sc2, sc3, sc4, Option.toList, List.cons_append, List.nil_append, clr, ne_eq, not_false_eq_true, not_true_eq_false, false_and, and_false, true_or, or_true, or_false, false_or, forall_const, Nat.reduceEqDiff, List.length_nil, List.length_cons, Nat.zero_le, Nat.reduceAdd, Nat.reduceLeDiff, false_implies, true_implies, Int.reduceEq, Int.reduceNe, Int.reduceLT, Int.reduceLE, Int.reduceNeg, Int.reduceToNat, Int.toNat_natCast, Nat.reduceLT, and_self, Decidable.not_not, kR_1, kR_2, kR_3, kR_4, kR_5, kR_6, kR_7, kR_8, kR_9, kR_10, kR_11, kR_12, kR_13, kR_14, kR_15, kR_16, kR_17, kR_18, kR_19, kR_20, kR_21, kR_22, kR_23, pR_0, pR_5, pR_6, pR_8, pR_11, pR_16, pR_17, pR_18, pR_21, pR_22, pR_23, pR_24, pR_26, pR_28, pR_29, pR_30, pR_33, pR_34, pR_35, pR_38, pR_41, pR_42, pR_43, g1, (EqW_o ct), EqW_o hcm2, kx, b0, b1, eA, EqW_o hmn]
        exact upd2 _ _ _
      · have g1 : vS c z V A B i < 0 := (vS_neg hL hV hi).mpr hp
        have hcm2 := EqW_i (hcm 126 (by rw [if_neg hp]))
        rw [if_neg hp] at eA hmn hcm2 hix
        simp only [if_neg hp] at upd2
        have ct : EqW (w32 ((cnt (fun g => decide (hpS c z V A B g)) i : Int) + 0)) ((cnt (fun g => decide (hpS c z V A B g)) (i + 1) : Int)) := EqW_i <| by
          rw [cnt_f (decide_eq_false hp), w32s (by omega), Int.add_zero]
        have b0 : (0 : Int) ≤ ((126 + i : Nat) : Int) := by omega
        have b1 : ((126 + i : Nat) : Int) < ((133 : Nat) : Int) := by omega
        simp only [s_205_0, s_205_1, s_205_2, s_205_3, s_205_5, s_205_7, s_205_10, s_205_11, s_205_14, s_205_15, s_205_16, s_205_17, s_205_20, s_205_23, s_205_24, s_205_26, s_205_27, s_205_30, s_205_33, s_205_34, s_205_35, s_205_39, s_205_42, s_205_43, s_205_46, s_205_47, s_205_49, s_205_50, s_205_52, s_205_55, s_205_56, s_205_59, s_205_60, s_205_61, s_205_62, s_205_64, s_205_67, s_205_69, s_205_72, s_205_74, s_205_75, s_205_76, s_205_78, s_205_79, s_205_81, s_205_84, s_205_85, s_205_87, s_205_88, s_205_89, s_205_90, s_205_93, s_205_95, s_205_99, s_205_100, s_205_103, s_205_106, s_205_107, s_205_110, s_205_111, s_205_114, s_205_116, s_205_117, s_205_118, s_205_119, s_205_120, s_205_121, s_205_122, s_205_125, s_205_128, s_205_131, s_205_134, s_205_135, s_205_137, s_205_141, s_205_144, s_205_145, s_205_147, s_205_148, s_205_149, s_205_151, s_205_152, s_205_154, s_205_155, s_205_156, s_205_157, s_205_158, s_205_161, s_205_162, s_205_163, s_205_164, s_205_167, s_205_168, s_205_169, s_205_170, s_205_171, s_205_172, s_205_176, s_205_179, s_205_180, s_205_182, s_205_183, s_205_184, s_205_185, s_205_186, s_205_189, s_205_192, s_205_195, s_205_196, s_205_197, s_205_198, s_205_199, s_205_200I, s_205_200, s_205_201, s_205_204, s_205_205, s_205_206, s_205_209, s_205_212, s_205_215, s_205_216I, s_205_216, s_205_217, s_205_220, s_205_221, s_205_224, s_205_225, s_205_226, s_205_227, s_205_230, s_205_231, s_205_234, s_205_235, s_205_236, s_205_237, s_205_238, s_205_239, s_205_240, true_and, and_true, sc0, sc1, sc2, sc3, sc4, Option.toList, List.cons_append, List.nil_append, clr, ne_eq, not_false_eq_true, not_true_eq_false, false_and, and_false, true_or, or_true, or_false, false_or, forall_const, Nat.reduceEqDiff, List.length_nil, List.length_cons, Nat.zero_le, Nat.reduceAdd, Nat.reduceLeDiff, false_implies, true_implies, Int.reduceEq, Int.reduceNe, Int.reduceLT, Int.reduceLE, Int.reduceNeg, Int.reduceToNat, Int.toNat_natCast, Nat.reduceLT, and_self, Decidable.not_not, kR_1, kR_2, kR_3, kR_4, kR_5, kR_6, kR_7, kR_8, kR_9, kR_10, kR_11, kR_12, kR_13, kR_14, kR_15, kR_16, kR_17, kR_18, kR_19, kR_20, kR_21, kR_22, kR_23, pR_0, pR_5, pR_6, pR_8, pR_11, pR_16, pR_17, pR_18, pR_21, pR_22, pR_23, pR_24, pR_26, pR_28, pR_29, pR_30, pR_33, pR_34, pR_35, pR_38, pR_41, pR_42, pR_43, g1, (EqW_o ct), EqW_o hcm2, kx, b0, b1, eA, EqW_o hmn]
        exact upd2 _ _ _
  simp only [s_205_0, s_205_1, s_205_2, s_205_3, s_205_5, s_205_7, s_205_10, s_205_11, s_205_14, s_205_15, s_205_16, s_205_17, s_205_20, s_205_23, s_205_24, s_205_26, s_205_27, s_205_30, s_205_33, s_205_34, s_205_35, s_205_39, s_205_42, s_205_43, s_205_46, s_205_47, s_205_49, s_205_50, s_205_52, s_205_55, s_205_56, s_205_59, s_205_60, s_205_61, s_205_62, s_205_64, s_205_67, s_205_69, s_205_72, s_205_74, s_205_75, s_205_76, s_205_78, s_205_79, s_205_81, s_205_84, s_205_85, s_205_87, s_205_88, s_205_89, s_205_90, s_205_93, s_205_94, s_205_95, s_205_99, s_205_100, s_205_103, s_205_106, s_205_107, s_205_110, s_205_111, s_205_114, s_205_116, s_205_117, s_205_118, s_205_119, s_205_120, s_205_121, s_205_122, s_205_125, s_205_128, s_205_131, s_205_134, s_205_135, s_205_137, s_205_141, s_205_144, s_205_145, s_205_147, s_205_148, s_205_149, s_205_151, s_205_152, s_205_154, s_205_155, s_205_156, s_205_157, s_205_158, s_205_161, s_205_162, s_205_163, s_205_164, s_205_167, s_205_168, s_205_169, s_205_170, s_205_171, s_205_172, s_205_176, s_205_179, s_205_180, s_205_182, s_205_183, s_205_184, s_205_185, s_205_186, s_205_189, s_205_192, s_205_195, s_205_196, s_205_197, s_205_198, s_205_199, s_205_200I, s_205_200, s_205_201, s_205_204, s_205_205, s_205_206, s_205_209, s_205_212, s_205_215, s_205_216I, s_205_216, s_205_217, s_205_220, s_205_221, s_205_224, s_205_225, s_205_226, s_205_227, s_205_230, s_205_231, s_205_234, s_205_235, s_205_236, s_205_237, s_205_238, s_205_239, s_205_240, true_and, and_true, sc0, sc1, sc2, sc3, sc4, Option.toList, List.cons_append, List.nil_append, clr, ne_eq, not_false_eq_true, not_true_eq_false, false_and, and_false, true_or, or_true, or_false, false_or, forall_const, Nat.reduceEqDiff, List.length_nil, List.length_cons, Nat.zero_le, Nat.reduceAdd, Nat.reduceLeDiff, false_implies, true_implies, Int.reduceEq, Int.reduceNe, Int.reduceLT, Int.reduceLE, Int.reduceNeg, Int.reduceToNat, Int.toNat_natCast, Nat.reduceLT, and_self, Decidable.not_not, kR_1, kR_2, kR_3, kR_4, kR_5, kR_6, kR_7, kR_8, kR_9, kR_10, kR_11, kR_12, kR_13, kR_14, kR_15, kR_16, kR_17, kR_18, kR_19, kR_20, kR_21, kR_22, kR_23, pR_0, pR_5, pR_6, pR_8, pR_11, pR_16, pR_17, pR_18, pR_21, pR_22, pR_23, pR_24, pR_26, pR_28, pR_29, pR_30, pR_33, pR_34, pR_35, pR_38, pR_41, pR_42, pR_43]
  refine lup (α := MM) (I := fun k K => (∀ p, p ≠ 16 → K p = M p) ∧ ∀ f, f < k → K 16 f = 0) (G := fun k K => wpB (Ev d) 205 Q X 4 [some (pR 1), some (pR x), some (pI 0), some (pI (k : Int)), none, none, none] [] (kz LR) (PR rd ru) K) 36 (fun K hK => ?_) (fun k K hk hK ih => ?_) 0 M (Nat.zero_le _) ⟨fun _ _ => rfl, fun f hf => absurd hf (Nat.not_lt_zero _)⟩
  · have e0 : (36 : Int) ≤ ((36 : Nat) : Int) := by decide
    have hFK : Fr (31 :: 32 :: SPl) (16 :: x :: TPl) M K := ⟨fun k _ => by rw [hK.1 1 (by decide)], fun o ho hT => hK.1 o (fun e => hT (by simp [e]))⟩
    rw [s_205_4]
    simp only [s_205_0, s_205_1, s_205_2, s_205_3, s_205_5, s_205_7, s_205_10, s_205_11, s_205_14, s_205_15, s_205_16, s_205_17, s_205_20, s_205_24, s_205_26, s_205_27, s_205_30, s_205_33, s_205_34, s_205_35, s_205_39, s_205_42, s_205_43, s_205_46, s_205_47, s_205_49, s_205_50, s_205_52, s_205_55, s_205_56, s_205_59, s_205_60, s_205_61, s_205_62, s_205_64, s_205_67, s_205_69, s_205_72, s_205_74, s_205_75, s_205_76, s_205_78, s_205_79, s_205_81, s_205_84, s_205_85, s_205_87, s_205_88, s_205_89, s_205_90, s_205_93, s_205_94, s_205_95, s_205_99, s_205_100, s_205_103, s_205_106, s_205_107, s_205_110, s_205_111, s_205_114, s_205_116, s_205_117, s_205_118, s_205_119, s_205_120, s_205_121, s_205_122, s_205_125, s_205_128, s_205_131, s_205_134, s_205_135, s_205_137, s_205_141, s_205_144, s_205_145, s_205_147, s_205_148, s_205_149, s_205_151, s_205_152, s_205_154, s_205_155, s_205_156, s_205_157, s_205_158, s_205_161, s_205_162, s_205_163, s_205_164, s_205_167, s_205_168, s_205_169, s_205_170, s_205_171, s_205_172, s_205_176, s_205_179, s_205_180, s_205_182, s_205_183, s_205_184, s_205_185, s_205_186, s_205_189, s_205_192, s_205_195, s_205_196, s_205_197, s_205_198, s_205_199, s_205_200I, s_205_200, s_205_201, s_205_204, s_205_205, s_205_206, s_205_209, s_205_212, s_205_215, s_205_216I, s_205_216, s_205_217, s_205_220, s_205_221, s_205_224, s_205_225, s_205_226, s_205_227, s_205_230, s_205_231, s_205_234, s_205_235, s_205_236, s_205_237, s_205_238, s_205_239, s_205_240, true_and, and_true, sc0, sc1, sc2, sc3, sc4, Option.toList, List.cons_append, List.nil_append, clr, ne_eq, not_false_eq_true, not_true_eq_false, false_and, and_false, true_or, or_true, or_false, false_or, forall_const, Nat.reduceEqDiff, List.length_nil, List.length_cons, Nat.zero_le, Nat.reduceAdd, Nat.reduceLeDiff, false_implies, true_implies, Int.reduceEq, Int.reduceNe, Int.reduceLT, Int.reduceLE, Int.reduceNeg, Int.reduceToNat, Int.toNat_natCast, Nat.reduceLT, and_self, Decidable.not_not, kR_1, kR_2, kR_3, kR_4, kR_5, kR_6, kR_7, kR_8, kR_9, kR_10, kR_11, kR_12, kR_13, kR_14, kR_15, kR_16, kR_17, kR_18, kR_19, kR_20, kR_21, kR_22, kR_23, pR_0, pR_5, pR_6, pR_8, pR_11, pR_16, pR_17, pR_18, pR_21, pR_22, pR_23, pR_24, pR_26, pR_28, pR_29, pR_30, pR_33, pR_34, pR_35, pR_38, pR_41, pR_42, pR_43, e0]
    exact k2 rd K _ _ _ _ hFK (fun j hj => by rw [hK.1 x hx1.2.2.1]; exact hA j hj) (fun f hf => hK.2 f (by omega)) (by rw [hK.1 1 (by decide)]) (by rw [hK.1 1 (by decide)])
  · have e0 : ¬ (36 : Int) ≤ (k : Int) := by omega
    have en := EqW_i (w32n (show k < 1000000 by omega))
    have b0 : (0 : Int) ≤ (k : Int) := by omega
    have b1 : (k : Int) < ((36 : Nat) : Int) := by omega
    rw [s_205_4]
    simp only [s_205_0, s_205_1, s_205_2, s_205_3, s_205_5, s_205_7, s_205_10, s_205_11, s_205_14, s_205_15, s_205_16, s_205_17, s_205_20, s_205_23, s_205_24, s_205_26, s_205_27, s_205_30, s_205_33, s_205_34, s_205_35, s_205_39, s_205_42, s_205_43, s_205_46, s_205_47, s_205_49, s_205_50, s_205_52, s_205_55, s_205_56, s_205_59, s_205_60, s_205_61, s_205_62, s_205_64, s_205_67, s_205_69, s_205_72, s_205_74, s_205_75, s_205_76, s_205_78, s_205_79, s_205_81, s_205_84, s_205_85, s_205_87, s_205_88, s_205_89, s_205_90, s_205_93, s_205_94, s_205_95, s_205_99, s_205_100, s_205_103, s_205_106, s_205_107, s_205_110, s_205_111, s_205_114, s_205_116, s_205_117, s_205_118, s_205_119, s_205_120, s_205_121, s_205_122, s_205_125, s_205_128, s_205_131, s_205_134, s_205_135, s_205_137, s_205_141, s_205_144, s_205_145, s_205_147, s_205_148, s_205_149, s_205_151, s_205_152, s_205_154, s_205_155, s_205_156, s_205_157, s_205_158, s_205_161, s_205_162, s_205_163, s_205_164, s_205_167, s_205_168, s_205_169, s_205_170, s_205_171, s_205_172, s_205_176, s_205_179, s_205_180, s_205_182, s_205_183, s_205_184, s_205_185, s_205_186, s_205_189, s_205_192, s_205_195, s_205_196, s_205_197, s_205_198, s_205_199, s_205_200I, s_205_200, s_205_201, s_205_204, s_205_205, s_205_206, s_205_209, s_205_212, s_205_215, s_205_216I, s_205_216, s_205_217, s_205_220, s_205_221, s_205_224, s_205_225, s_205_226, s_205_227, s_205_230, s_205_231, s_205_234, s_205_235, s_205_236, s_205_237, s_205_238, s_205_239, s_205_240, true_and, and_true, sc0, sc1, sc2, sc3, sc4, Option.toList, List.cons_append, List.nil_append, clr, ne_eq, not_false_eq_true, not_true_eq_false, false_and, and_false, true_or, or_true, or_false, false_or, forall_const, Nat.reduceEqDiff, List.length_nil, List.length_cons, Nat.zero_le, Nat.reduceAdd, Nat.reduceLeDiff, false_implies, true_implies, Int.reduceEq, Int.reduceNe, Int.reduceLT, Int.reduceLE, Int.reduceNeg, Int.reduceToNat, Int.toNat_natCast, Nat.reduceLT, and_self, Decidable.not_not, kR_1, kR_2, kR_3, kR_4, kR_5, kR_6, kR_7, kR_8, kR_9, kR_10, kR_11, kR_12, kR_13, kR_14, kR_15, kR_16, kR_17, kR_18, kR_19, kR_20, kR_21, kR_22, kR_23, pR_0, pR_5, pR_6, pR_8, pR_11, pR_16, pR_17, pR_18, pR_21, pR_22, pR_23, pR_24, pR_26, pR_28, pR_29, pR_30, pR_33, pR_34, pR_35, pR_38, pR_41, pR_42, pR_43, e0, b0, b1, (EqW_o en)]
    refine ih _ ⟨fun p hp => by rw [uM_ne hp]; exact hK.1 p hp, fun f hf => ?_⟩
    rw [uM_at, if_pos rfl]
    by_cases e : f = k
    · rw [if_pos e]
    · rw [if_neg e]; exact hK.2 f (by omega)
end
