/-! cut: a way found is taken -/
section
variable {c z : Nat} {p th : Nat → Bool} {al : Nat → Nat → Bool}
theorem rs_T {f0 x y : Nat} (h : rs c z p th al x y) (hne : ¬ (x / 2 = f0 ∧ y / 2 = f0)) : rs c z p (tT th f0) al x y := by
  obtain ⟨f, hf, h⟩ := h
  refine ⟨f, hf, ?_⟩
  rcases h with ⟨h1, h2, h3⟩ | ⟨h1, h2, h3⟩ | h
  · exact Or.inl ⟨h1, h2, by rw [tT_ne (fun e => hne (by omega))]; exact h3⟩
  · exact Or.inr (Or.inl ⟨h1, h2, by rw [tT_ne (fun e => hne (by omega))]; exact h3⟩)
  · exact Or.inr (Or.inr h)
theorem rs_A {d0 f0 g0 x y : Nat} (hL : Lnd c z) (h : rs c z p th al x y) (hg0 : bsd c z f0 d0 = (g0 : Int)) (h1 : ¬ (x = 2 * f0 + 1 ∧ y = 2 * g0)) (h2 : ¬ (x = 2 * g0 ∧ y = 2 * f0 + 1)) : rs c z p th (tA al d0 f0) x y := by
  obtain ⟨f, hf, h⟩ := h
  refine ⟨f, hf, ?_⟩
  rcases h with h | h | ⟨d, g, hd, hg, h⟩
  · exact Or.inl h
  · exact Or.inr (Or.inl h)
  · refine Or.inr (Or.inr ⟨d, g, hd, hg, ?_⟩)
    rcases h with ⟨w1, w2, w3, w4⟩ | ⟨w1, w2, w3⟩
    · refine Or.inl ⟨w1, w2, w3, ?_⟩
      rw [tA_ne (fun e => ?_)]
      · exact w4
      · obtain ⟨rfl, rfl⟩ := e
        exact h1 ⟨w1, by omega⟩
    · refine Or.inr ⟨w1, w2, ?_⟩
      rw [tA_ne (fun e => ?_)]
      · exact w3
      · obtain ⟨e1, rfl⟩ := e
        have := bsd_op hL hf hd hg
        rw [e1] at this
        exact h2 ⟨by omega, w2⟩
theorem FV_T {f : Nat} (h : FV c z p th al) (hf : f < z) (pf : p f = true) : FV c z p (tT th f) al := by
  refine ⟨fun k hk => ?_, h.2⟩
  by_cases e : k = f
  · subst e; exact ⟨hf, pf⟩
  · rw [tT_ne e] at hk; exact h.1 k hk
theorem FV_A {d f g : Nat} (h : FV c z p th al) (hd : d < 4) (hf : f < z) (pf : p f = true) (hg : bsd c z f d = (g : Int)) (pg : p g = true) : FV c z p th (tA al d f) := by
  refine ⟨h.1, fun e k hk => ?_⟩
  by_cases w : e = d ∧ k = f
  · obtain ⟨rfl, rfl⟩ := w; exact ⟨hd, hf, pf, g, hg, pg⟩
  · rw [tA_ne w] at hk; exact h.2 e k hk
theorem aug_T {x y : Nat} (hL : Lnd c z) (h : rs c z p th al x y) (he : x / 2 = y / 2) : y / 2 < z ∧ ∀ χ, Fi c z (tT th (y / 2)) al χ = Fi c z th al χ + (χ x - χ y) := by
  obtain ⟨f, hf, h⟩ := h
  rcases h with ⟨h1, h2, h3⟩ | ⟨h1, h2, h3⟩ | ⟨d, g, hd, hg, h⟩
  · have e : y / 2 = f := by omega
    rw [e]
    refine ⟨hf, fun χ => ?_⟩
    rw [Fi_T hf, if_pos h3, h1, h2]
  · have e : y / 2 = f := by omega
    rw [e]
    refine ⟨hf, fun χ => ?_⟩
    rw [Fi_T hf, h3, h1, h2]; rfl
  · have hne := bsd_ne (f := f) hL hd
    rw [hg] at hne
    rcases h with ⟨h1, h2, _⟩ | ⟨h1, h2, _⟩
    · exact absurd (show (g : Int) = (f : Int) by omega) hne
    · exact absurd (show (g : Int) = (f : Int) by omega) hne
theorem aug_A {x y : Nat} (hL : Lnd c z) (h : rs c z p th al x y) (he : ¬ x / 2 = y / 2) : (x % 2 = 1 → x = 2 * (x / 2) + 1 ∧ y = 2 * (y / 2) ∧ ∃ d, d < 4 ∧ bsd c z (x / 2) d = ((y / 2 : Nat) : Int) ∧ ∀ χ, Fi c z th (tA al d (x / 2)) χ = Fi c z th al χ + (χ x - χ y)) ∧ (¬ x % 2 = 1 → x = 2 * (x / 2) ∧ y = 2 * (y / 2) + 1 ∧ ∃ d, d < 4 ∧ bsd c z (y / 2) d = ((x / 2 : Nat) : Int) ∧ ∀ χ, Fi c z th (tA al d (y / 2)) χ = Fi c z th al χ + (χ x - χ y)) := by
  obtain ⟨f, hf, h⟩ := h
  rcases h with ⟨h1, h2, h3⟩ | ⟨h1, h2, h3⟩ | ⟨d, g, hd, hg, h⟩
  · omega
  · omega
  · have hgz := bsd_lt hL hf hd hg (by omega)
    rcases h with ⟨h1, h2, h3, h4⟩ | ⟨h1, h2, h3⟩
    · have e1 : x / 2 = f := by omega
      have e2 : y / 2 = g := by omega
      refine ⟨fun _ => ⟨by omega, by omega, d, hd, by rw [e1, e2]; exact hg, fun χ => ?_⟩, fun w => by omega⟩
      rw [e1, Fi_A hf hd, h4, hg, Int.toNat_natCast, h1, h2]; rfl
    · have e1 : x / 2 = f := by omega
      have e2 : y / 2 = g := by omega
      have hop := bsd_op hL hf hd hg
      refine ⟨fun w => by omega, fun _ => ⟨by omega, by omega, 3 - d, by omega, by rw [e1, e2]; exact hop, fun χ => ?_⟩⟩
      rw [e2, Fi_A (by omega) (by omega), h3, if_pos rfl, hop, Int.toNat_natCast, h1, h2]
end
def PtK (K : MM) (p th : Nat → Bool) (al : Nat → Nat → Bool) (z : Nat) : Prop := K 168 1 = ((bs p z : Nat) : Int) ∧ K 168 2 = ((bs th z : Nat) : Int) ∧ ∀ d, d < 4 → K 169 d = ((bs (al d) z : Nat) : Int)
theorem div2 {x : Nat} (h : x < 1000) : w32 ((x : Int).tdiv 2) = ((x / 2 : Nat) : Int) := by
  rw [Int.tdiv_eq_ediv_of_nonneg (by omega), w32s (by omega)]; omega
theorem and1 {x : Nat} (h : x < 1000) : bAnd (x : Int) 1 = ((x % 2 : Nat) : Int) := by
  rw [show (1 : Int) = ((1 : Nat) : Int) from rfl, bAnd_n (by omega), Nat.and_one_is_mod]
theorem xor_bs {q : Nat → Bool} {z f : Nat} (hz : z ≤ 36) (hf : f < z) : lXor ((bs q z : Nat) : Int) (lShl 1 (f : Int)) = ((bs (fun k => q k ^^ decide (k = f)) z : Nat) : Int) := by
  have h1 : bs q z < 2 ^ 62 := bs_le (by omega)
  have h2 : 2 ^ f < 2 ^ 62 := Nat.pow_lt_pow_right (by decide) (by omega)
  rw [one_shl (by omega), lXor_n (by omega) (by omega), bs_xor1 hf]
section
variable {M : MM} {b : Bool} {r c z s t k : Nat} {p th : Nat → Bool} {al : Nat → Nat → Bool}
theorem c_turnStep {f g d0 : Nat} (hG : GrC M r c z) (hP : PtK M p th al z) (hf : f < z) (hd0 : d0 < 4) (hg : bsd c z f d0 = (g : Int)) : Cw 1 110 [pR 168, pI (f : Int), pI (g : Int)] LC (PC b) M (fun x P' M' => P' = PC b ∧ x = none ∧ PtK M' p th (tA al d0 f) z ∧ ∀ o, o ≠ 169 → M' o = M o) := by
  refine Cw_k [some (pR 168), some (pI (f : Int)), some (pI (g : Int)), none] (Nat.le_of_ble_eq_true rfl) rfl (fun d hd Q X hQ => ?_)
  have hz := GrC_z hG
  have hL := GrC_L hG
  obtain ⟨p1, p2, p3⟩ := hP
  have e4 : EqW (w32 (4 * (f : Int))) (((4 * f : Nat) : Int)) := EqW_i <| by unfold w32; omega
  simp only [s_110_0, s_110_1, s_110_3, s_110_4, s_110_7, s_110_8, s_110_11, s_110_14, s_110_15, s_110_16, s_110_17, s_110_18, s_110_19, s_110_20, s_110_21, s_110_24, s_110_25, s_110_28, s_110_29, s_110_30, s_110_31, s_110_32, s_110_33, s_110_34, s_110_35, s_110_36, s_110_39, s_110_42, true_and, and_true, sc0, sc1, sc2, sc3, sc4, Option.toList, List.cons_append, List.nil_append, clr, ne_eq, not_false_eq_true, not_true_eq_false, false_and, and_false, true_or, or_true, or_false, false_or, forall_const, Nat.reduceEqDiff, List.length_nil, List.length_cons, Nat.zero_le, Nat.reduceAdd, Nat.reduceLeDiff, false_implies, true_implies, Int.reduceEq, Int.reduceNe, Int.reduceLT, Int.reduceLE, Int.reduceNeg, Int.reduceToNat, Int.toNat_natCast, Nat.reduceLT, and_self, Decidable.not_not, kC_0, kC_1, kC_2, kC_3, kC_4, kC_5, kC_6, kC_7, kC_8, kC_9, kC_10, kC_11, kC_12, kC_13, kC_14, kC_15, kC_16, kC_17, kC_18, kC_19, kC_20, kC_21, kC_22, kC_23, kC_24, kC_25, kC_26, kC_27, kC_28, kC_29, kC_30, kC_31, kC_32, kC_145, kC_146, kC_147, kC_148, kC_149, kC_150, kC_151, kC_164, kC_165, kC_166, kC_167, kC_168, kC_169, kC_170, kC_171, kC_172, kC_173, kC_174, kC_175, kC_176, kC_177, kC_178, kC_179, kC_180, kC_181, kC_182, kC_183, kC_184, pC_1_0, pC_1_2, pC_1_3, pC_1_4, pC_1_5, pC_1_6, pC_1_7, pC_1_8, pC_1_9, pC_1_10, pC_1_11, pC_3_5, pC_5_0, pC_5_1, pC_5_2, pC_5_6, pC_5_7, pC_5_8, pC_5_9, pC_5_10, pC_13_0, pC_13_1, pC_13_2, pC_13_6, pC_13_7, pC_13_8, pC_13_9, pC_13_10, pC_21_0, pC_21_1, pC_21_2, pC_21_6, pC_21_7, pC_21_8, pC_21_9, pC_21_10, pC_29_0, pC_29_1, pC_29_2, pC_145_0, pC_145_1, pC_145_2, pC_145_3, pC_145_4, pC_149_0, pC_149_1, pC_149_2, pC_164_1, pC_164_2, pC_164_3, pC_168_0, pC_168_3, pC_168_4, pC_168_5, pC_172_0, pC_175_0, pC_175_2, pC_175_3, pC_175_5, pC_180_0, pC_180_2, pC_180_3, pC_180_5]
  refine lup (α := MM) (I := fun i K => (∀ o, o ≠ 169 → K o = M o) ∧ ∀ d, d < 4 → K 169 d = ((bs ((if d < i then tA al d0 f else al) d) z : Nat) : Int)) (G := fun i K => wpB (Ev d) 110 Q X 2 [some (pR 168), some (pI (f : Int)), some (pI (g : Int)), some (pI (i : Int))] [] (kz LC) (PC b) K) 4 (fun K hK => ?_) (fun i K hi hK ih => ?_) 0 M (Nat.zero_le _) ⟨fun _ _ => rfl, fun d hd => by rw [if_neg (Nat.not_lt_zero _)]; exact p3 d hd⟩
  · obtain ⟨k1, k2⟩ := hK
    have g4 : (4 : Int) ≤ ((4 : Nat) : Int) := by decide
    rw [s_110_2]
    simp only [s_110_0, s_110_1, s_110_3, s_110_4, s_110_7, s_110_8, s_110_11, s_110_14, s_110_15, s_110_16, s_110_17, s_110_18, s_110_19, s_110_20, s_110_21, s_110_24, s_110_25, s_110_28, s_110_29, s_110_30, s_110_31, s_110_32, s_110_33, s_110_34, s_110_35, s_110_36, s_110_39, s_110_42, true_and, and_true, sc0, sc1, sc2, sc3, sc4, Option.toList, List.cons_append, List.nil_append, clr, ne_eq, not_false_eq_true, not_true_eq_false, false_and, and_false, true_or, or_true, or_false, false_or, forall_const, Nat.reduceEqDiff, List.length_nil, List.length_cons, Nat.zero_le, Nat.reduceAdd, Nat.reduceLeDiff, false_implies, true_implies, Int.reduceEq, Int.reduceNe, Int.reduceLT, Int.reduceLE, Int.reduceNeg, Int.reduceToNat, Int.toNat_natCast, Nat.reduceLT, and_self, Decidable.not_not, kC_0, kC_1, kC_2, kC_3, kC_4, kC_5, kC_6, kC_7, kC_8, kC_9, kC_10, kC_11, kC_12, kC_13, kC_14, kC_15, kC_16, kC_17, kC_18, kC_19, kC_20, kC_21, kC_22, kC_23, kC_24, kC_25, kC_26, kC_27, kC_28, kC_29, kC_30, kC_31, kC_32, kC_145, kC_146, kC_147, kC_148, kC_149, kC_150, kC_151, kC_164, kC_165, kC_166, kC_167, kC_168, kC_169, kC_170, kC_171, kC_172, kC_173, kC_174, kC_175, kC_176, kC_177, kC_178, kC_179, kC_180, kC_181, kC_182, kC_183, kC_184, pC_1_0, pC_1_2, pC_1_3, pC_1_4, pC_1_5, pC_1_6, pC_1_7, pC_1_8, pC_1_9, pC_1_10, pC_1_11, pC_3_5, pC_5_0, pC_5_1, pC_5_2, pC_5_6, pC_5_7, pC_5_8, pC_5_9, pC_5_10, pC_13_0, pC_13_1, pC_13_2, pC_13_6, pC_13_7, pC_13_8, pC_13_9, pC_13_10, pC_21_0, pC_21_1, pC_21_2, pC_21_6, pC_21_7, pC_21_8, pC_21_9, pC_21_10, pC_29_0, pC_29_1, pC_29_2, pC_145_0, pC_145_1, pC_145_2, pC_145_3, pC_145_4, pC_149_0, pC_149_1, pC_149_2, pC_164_1, pC_164_2, pC_164_3, pC_168_0, pC_168_3, pC_168_4, pC_168_5, pC_172_0, pC_175_0, pC_175_2, pC_175_3, pC_175_5, pC_180_0, pC_180_2, pC_180_3, pC_180_5, g4]
    exact hQ _ _ _ ⟨rfl, rfl, ⟨by rw [k1 168 (by decide)]; exact p1, by rw [k1 168 (by decide)]; exact p2, fun d hd => by rw [k2 d hd, if_pos hd]⟩, k1⟩
  · obtain ⟨k1, k2⟩ := hK
    have g4 : ¬ (4 : Int) ≤ (i : Int) := by omega
    have e5 : EqW (w32 (((4 * f : Nat) : Int) + (i : Int))) (((4 * f + i : Nat) : Int)) := EqW_i <| by rw [w32s (by omega)]; rfl
    have b5 : (0 : Int) ≤ ((4 * f + i : Nat) : Int) ∧ ((4 * f + i : Nat) : Int) < ((144 : Nat) : Int) := by omega
    have m4 : K 4 (4 * f + i) = bsd c z f i := by rw [k1 4 (by decide)]; exact GrC_b hG hf hi
    have en := EqW_i (w32n (show i < 1000000 by omega))
    have bi : (0 : Int) ≤ (i : Int) ∧ (i : Int) < ((4 : Nat) : Int) := by omega
    rw [s_110_2]
    by_cases e : i = d0
    · subst e
      have q1 : K 169 i = ((bs (al i) z : Nat) : Int) := by rw [k2 i hi, if_neg (Nat.lt_irrefl _)]
      have hx := EqW_i (xor_bs (q := al i) hz.2 hf)
      simp only [s_110_0, s_110_1, s_110_3, s_110_4, s_110_7, s_110_8, s_110_11, s_110_14, s_110_15, s_110_16, s_110_17, s_110_18, s_110_19, s_110_20, s_110_21, s_110_24, s_110_25, s_110_28, s_110_29, s_110_30, s_110_31, s_110_32, s_110_33, s_110_34, s_110_35, s_110_36, s_110_39, s_110_42, true_and, and_true, sc0, sc1, sc2, sc3, sc4, Option.toList, List.cons_append, List.nil_append, clr, ne_eq, not_false_eq_true, not_true_eq_false, false_and, and_false, true_or, or_true, or_false, false_or, forall_const, Nat.reduceEqDiff, List.length_nil, List.length_cons, Nat.zero_le, Nat.reduceAdd, Nat.reduceLeDiff, false_implies, true_implies, Int.reduceEq, Int.reduceNe, Int.reduceLT, Int.reduceLE, Int.reduceNeg, Int.reduceToNat, Int.toNat_natCast, Nat.reduceLT, and_self, Decidable.not_not, kC_0, kC_1, kC_2, kC_3, kC_4, kC_5, kC_6, kC_7, kC_8, kC_9, kC_10, kC_11, kC_12, kC_13, kC_14, kC_15, kC_16, kC_17, kC_18, kC_19, kC_20, kC_21, kC_22, kC_23, kC_24, kC_25, kC_26, kC_27, kC_28, kC_29, kC_30, kC_31, kC_32, kC_145, kC_146, kC_147, kC_148, kC_149, kC_150, kC_151, kC_164, kC_165, kC_166, kC_167, kC_168, kC_169, kC_170, kC_171, kC_172, kC_173, kC_174, kC_175, kC_176, kC_177, kC_178, kC_179, kC_180, kC_181, kC_182, kC_183, kC_184, pC_1_0, pC_1_2, pC_1_3, pC_1_4, pC_1_5, pC_1_6, pC_1_7, pC_1_8, pC_1_9, pC_1_10, pC_1_11, pC_3_5, pC_5_0, pC_5_1, pC_5_2, pC_5_6, pC_5_7, pC_5_8, pC_5_9, pC_5_10, pC_13_0, pC_13_1, pC_13_2, pC_13_6, pC_13_7, pC_13_8, pC_13_9, pC_13_10, pC_21_0, pC_21_1, pC_21_2, pC_21_6, pC_21_7, pC_21_8, pC_21_9, pC_21_10, pC_29_0, pC_29_1, pC_29_2, pC_145_0, pC_145_1, pC_145_2, pC_145_3, pC_145_4, pC_149_0, pC_149_1, pC_149_2, pC_164_1, pC_164_2, pC_164_3, pC_168_0, pC_168_3, pC_168_4, pC_168_5, pC_172_0, pC_175_0, pC_175_2, pC_175_3, pC_175_5, pC_180_0, pC_180_2, pC_180_3, pC_180_5, g4, (EqW_o e4), (EqW_o e5), b5, m4, hg, bi, q1, EqW_o hx, (EqW_o en)]
      refine ih _ ⟨fun o ho => by rw [uM_ne ho]; exact k1 o ho, fun d hd => ?_⟩
      rw [uM_at, if_pos rfl]
      by_cases e2 : d = i
      · subst e2
        rw [if_pos rfl, if_pos (by omega)]
        exact congrArg (fun x : Nat => (x : Int)) (bs_cg (fun k hk => by unfold tA; simp))
      · rw [if_neg e2, k2 d hd]
        by_cases e3 : d < i
        · rw [if_pos e3, if_pos (by omega)]
        · rw [if_neg e3, if_neg (by omega)]
    · have hne : ¬ bsd c z f i = (g : Int) := fun w => e (bsd_inj hL hi hd0 w hg)
      simp only [s_110_0, s_110_1, s_110_3, s_110_4, s_110_7, s_110_8, s_110_11, s_110_14, s_110_15, s_110_16, s_110_17, s_110_18, s_110_19, s_110_20, s_110_21, s_110_24, s_110_25, s_110_28, s_110_29, s_110_30, s_110_31, s_110_32, s_110_33, s_110_34, s_110_35, s_110_36, s_110_39, s_110_42, true_and, and_true, sc0, sc1, sc2, sc3, sc4, Option.toList, List.cons_append, List.nil_append, clr, ne_eq, not_false_eq_true, not_true_eq_false, false_and, and_false, true_or, or_true, or_false, false_or, forall_const, Nat.reduceEqDiff, List.length_nil, List.length_cons, Nat.zero_le, Nat.reduceAdd, Nat.reduceLeDiff, false_implies, true_implies, Int.reduceEq, Int.reduceNe, Int.reduceLT, Int.reduceLE, Int.reduceNeg, Int.reduceToNat, Int.toNat_natCast, Nat.reduceLT, and_self, Decidable.not_not, kC_0, kC_1, kC_2, kC_3, kC_4, kC_5, kC_6, kC_7, kC_8, kC_9, kC_10, kC_11, kC_12, kC_13, kC_14, kC_15, kC_16, kC_17, kC_18, kC_19, kC_20, kC_21, kC_22, kC_23, kC_24, kC_25, kC_26, kC_27, kC_28, kC_29, kC_30, kC_31, kC_32, kC_145, kC_146, kC_147, kC_148, kC_149, kC_150, kC_151, kC_164, kC_165, kC_166, kC_167, kC_168, kC_169, kC_170, kC_171, kC_172, kC_173, kC_174, kC_175, kC_176, kC_177, kC_178, kC_179, kC_180, kC_181, kC_182, kC_183, kC_184, pC_1_0, pC_1_2, pC_1_3, pC_1_4, pC_1_5, pC_1_6, pC_1_7, pC_1_8, pC_1_9, pC_1_10, pC_1_11, pC_3_5, pC_5_0, pC_5_1, pC_5_2, pC_5_6, pC_5_7, pC_5_8, pC_5_9, pC_5_10, pC_13_0, pC_13_1, pC_13_2, pC_13_6, pC_13_7, pC_13_8, pC_13_9, pC_13_10, pC_21_0, pC_21_1, pC_21_2, pC_21_6, pC_21_7, pC_21_8, pC_21_9, pC_21_10, pC_29_0, pC_29_1, pC_29_2, pC_145_0, pC_145_1, pC_145_2, pC_145_3, pC_145_4, pC_149_0, pC_149_1, pC_149_2, pC_164_1, pC_164_2, pC_164_3, pC_168_0, pC_168_3, pC_168_4, pC_168_5, pC_172_0, pC_175_0, pC_175_2, pC_175_3, pC_175_5, pC_180_0, pC_180_2, pC_180_3, pC_180_5, g4, (EqW_o e4), (EqW_o e5), b5, m4, hne, (EqW_o en)]
      refine ih _ ⟨k1, fun d hd => ?_⟩
      rw [k2 d hd]
      by_cases e3 : d < i
      · rw [if_pos e3, if_pos (by omega)]
      · rw [if_neg e3]
        by_cases e2 : d = i
        · subst e2
          rw [if_pos (by omega)]
          exact congrArg (fun x : Nat => (x : Int)) (bs_cg (fun k hk => by rw [tA_ne (fun w => e w.1)]))
        · rw [if_neg (by omega)]
def Wy (K : MM) (c z : Nat) (p th : Nat → Bool) (al : Nat → Nat → Bool) (s n : Nat) (w : Nat → Nat) : Prop := 1 ≤ n ∧ w 0 = 2 * s + 1 ∧ (∀ j, j < n → w j < 2 * z ∧ p (w j / 2) = true) ∧ (∀ i j, i < n → j < n → w i = w j → i = j) ∧ ∀ j, 0 < j → j < n → ∃ j', j' < j ∧ K 170 (w j) = (w j' : Int) ∧ rs c z p th al (w j') (w j)
theorem c_turnBack {w : Nat → Nat} {n i : Nat} (hG : GrC M r c z) (hP : PtK M p th al z) (hV : FV c z p th al) (hF : ∀ χ : Nat → Int, Fi c z th al χ = (k : Int) * (χ (2 * s + 1) - χ (2 * t))) (hs : s < z) (ht : t < z) (hW : Wy M c z p th al s n w) (hn : n ≤ 72) (hi : i < n) (hwi : w i = 2 * t) : Cw 2 109 [pR 168, pI ((2 * s + 1 : Nat) : Int), pI ((2 * t : Nat) : Int)] LC (PC b) M (fun x P' M' => P' = PC b ∧ x = none ∧ ∃ th' al', PtK M' p th' al' z ∧ FV c z p th' al' ∧ (∀ χ : Nat → Int, Fi c z th' al' χ = ((k + 1 : Nat) : Int) * (χ (2 * s + 1) - χ (2 * t))) ∧ ∀ o, o ≠ 168 → o ≠ 169 → M' o = M o) := by
  refine Cw_k [some (pR 168), some (pI ((2 * s + 1 : Nat) : Int)), some (pI ((2 * t : Nat) : Int)), none, none, none] (Nat.le_of_ble_eq_true rfl) rfl (fun d hd Q X hQ => ?_)
  have hz := GrC_z hG
  have hL := GrC_L hG
  obtain ⟨w1, w2, w3, w4, w5⟩ := hW
  have main : ∀ (j : Nat), ∀ (it : Nat) (th' : Nat → Bool) (al' : Nat → Nat → Bool) (K : MM) (l5 : Option PV), j ≤ i → it + j ≤ 71 → PtK K p th' al' z → FV c z p th' al' → (∀ χ : Nat → Int, Fi c z th' al' χ = (k : Int) * (χ (2 * s + 1) - χ (2 * t)) + (χ (w j) - χ (2 * t))) → (∀ a a', a ≤ j → a' ≤ j → rs c z p th al (w a) (w a') → rs c z p th' al' (w a) (w a')) → (∀ o, o ≠ 168 → o ≠ 169 → K o = M o) → wpB (Ev d) 109 Q X 5 [some (pR 168), some (pI ((2 * s + 1 : Nat) : Int)), some (pI ((2 * t : Nat) : Int)), some (pI (w j : Int)), some (pI (it : Int)), l5] [] (kz LC) (PC b) K := by
    intro j
    induction j using Nat.strongRecOn with
    | _ j ih =>
      intro it th' al' K l5 hj hit kP kV kF kR kM
      have g1 : ¬ (72 : Int) ≤ (it : Int) := by omega
      rw [s_109_5]
      by_cases j0 : j = 0
      · subst j0
        have e1 : ((w 0 : Nat) : Int) = ((2 * s + 1 : Nat) : Int) := by rw [w2]
        simp only [s_109_0, s_109_1, s_109_2, s_109_3, s_109_7, s_109_9, s_109_12, s_109_13, s_109_14, s_109_17, s_109_18, s_109_21, s_109_22, s_109_23, s_109_25, s_109_27, s_109_30, s_109_31, s_109_33, s_109_34, s_109_35, s_109_36, s_109_37, s_109_38, s_109_41, s_109_42I, s_109_42, s_109_43, s_109_46, s_109_47, s_109_48, s_109_49, s_109_50, s_109_51, s_109_52, s_109_55, s_109_58, s_109_60, s_109_61, s_109_62, s_109_63, s_109_66, s_109_67, s_109_69, s_109_70, s_109_71, s_109_72, s_109_73, s_109_77, s_109_80, s_109_81, s_109_82, s_109_83, s_109_84, s_109_86, s_109_87, s_109_91, s_109_93, s_109_94, s_109_97, s_109_100, true_and, and_true, sc0, sc1, sc2, sc3, sc4, Option.toList, List.cons_append, List.nil_append, clr, ne_eq, not_false_eq_true, not_true_eq_false, false_and, and_false, true_or, or_true, or_false, false_or, forall_const, Nat.reduceEqDiff, List.length_nil, List.length_cons, Nat.zero_le, Nat.reduceAdd, Nat.reduceLeDiff, false_implies, true_implies, Int.reduceEq, Int.reduceNe, Int.reduceLT, Int.reduceLE, Int.reduceNeg, Int.reduceToNat, Int.toNat_natCast, Nat.reduceLT, and_self, Decidable.not_not, kC_0, kC_1, kC_2, kC_3, kC_4, kC_5, kC_6, kC_7, kC_8, kC_9, kC_10, kC_11, kC_12, kC_13, kC_14, kC_15, kC_16, kC_17, kC_18, kC_19, kC_20, kC_21, kC_22, kC_23, kC_24, kC_25, kC_26, kC_27, kC_28, kC_29, kC_30, kC_31, kC_32, kC_145, kC_146, kC_147, kC_148, kC_149, kC_150, kC_151, kC_164, kC_165, kC_166, kC_167, kC_168, kC_169, kC_170, kC_171, kC_172, kC_173, kC_174, kC_175, kC_176, kC_177, kC_178, kC_179, kC_180, kC_181, kC_182, kC_183, kC_184, pC_1_0, pC_1_2, pC_1_3, pC_1_4, pC_1_5, pC_1_6, pC_1_7, pC_1_8, pC_1_9, pC_1_10, pC_1_11, pC_3_5, pC_5_0, pC_5_1, pC_5_2, pC_5_6, pC_5_7, pC_5_8, pC_5_9, pC_5_10, pC_13_0, pC_13_1, pC_13_2, pC_13_6, pC_13_7, pC_13_8, pC_13_9, pC_13_10, pC_21_0, pC_21_1, pC_21_2, pC_21_6, pC_21_7, pC_21_8, pC_21_9, pC_21_10, pC_29_0, pC_29_1, pC_29_2, pC_145_0, pC_145_1, pC_145_2, pC_145_3, pC_145_4, pC_149_0, pC_149_1, pC_149_2, pC_164_1, pC_164_2, pC_164_3, pC_168_0, pC_168_3, pC_168_4, pC_168_5, pC_172_0, pC_175_0, pC_175_2, pC_175_3, pC_175_5, pC_180_0, pC_180_2, pC_180_3, pC_180_5, g1, e1]
        refine hQ _ _ _ ⟨rfl, rfl, th', al', kP, kV, fun χ => ?_, kM⟩
        rw [kF χ, w2, Int.natCast_add, Int.add_mul]
        simp
      have hjn : j < n := by omega
      obtain ⟨j', hj', c1, c2⟩ := w5 j (by omega) hjn
      have hne : ¬ ((w j : Nat) : Int) = ((2 * s + 1 : Nat) : Int) := fun e => by
        have : w j = w 0 := by rw [w2]; omega
        have := w4 j 0 hjn (by omega) this
        omega
      have bj := w3 j hjn
      have bj' := w3 j' (by omega)
      have m170 : K 170 (w j) = ((w j' : Nat) : Int) := by rw [kM 170 (by decide) (by decide)]; exact c1
      have hrs := kR j' j (by omega) (Nat.le_refl _) c2
      have bw : (0 : Int) ≤ ((w j : Nat) : Int) ∧ ((w j : Nat) : Int) < ((72 : Nat) : Int) := by omega
      have q1 : ¬ ((w j' : Nat) : Int) < 0 := by omega
      have q1' : (0 : Int) ≤ ((w j' : Nat) : Int) := by omega
      have v1 := EqW_i (div2 (show w j' < 1000 by omega))
      have v2 := EqW_i (div2 (show w j < 1000 by omega))
      have v3 := EqW_i (and1 (show w j' < 1000 by omega))
      have en := EqW_i (w32n (show it < 1000000 by omega))
      have dist : ∀ a, a ≤ j' → w a ≠ w j := fun a ha e => by
        have := w4 a j (by omega) hjn e
        omega
      obtain ⟨kp1, kp2, kp3⟩ := kP
      have two : ¬ (2 : Int) = 0 := by decide
      by_cases e : w j' / 2 = w j / 2
      · obtain ⟨a1, a2⟩ := aug_T hL hrs e
        have e1 : ((w j' / 2 : Nat) : Int) = ((w j / 2 : Nat) : Int) := by rw [e]
        have hx := EqW_i (xor_bs (q := th') hz.2 a1)
        have := ih j' hj' (it + 1) (tT th' (w j / 2)) al' (uM K 168 2 ((bs (tT th' (w j / 2)) z : Nat) : Int)) (some (pI ((w j' : Nat) : Int))) (by omega) (by omega) ⟨by rw [uM_at, if_pos rfl, if_neg (by decide)]; exact kp1, by rw [uM_at, if_pos rfl, if_pos rfl], fun d hd => by rw [uM_ne (by decide)]; exact kp3 d hd⟩ (FV_T kV a1 bj.2) (fun χ => by rw [a2 χ, kF χ]; omega) (fun a a' h1 h2 h3 => rs_T (kR a a' (by omega) (by omega) h3) (fun q => by
          -- both places of one field are w j' and w j
          have n1 := dist a h1
          have n2 := dist a' h2
          obtain ⟨f, hf, hc⟩ := h3
          rcases hc with ⟨x1, x2, _⟩ | ⟨x1, x2, _⟩ | ⟨d1, g, hd1, hg, hc⟩
          · omega
          · omega
          · have hb := bsd_ne (f := f) hL hd1
            rw [hg] at hb
            rcases hc with ⟨x1, x2, _⟩ | ⟨x1, x2, _⟩
            · exact hb (by omega)
            · exact hb (by omega))) (fun o h1 h2 => by rw [uM_ne h1]; exact kM o h1 h2)
        simp only [s_109_0, s_109_1, s_109_2, s_109_3, s_109_7, s_109_9, s_109_12, s_109_13, s_109_14, s_109_17, s_109_18, s_109_21, s_109_22, s_109_23, s_109_25, s_109_27, s_109_30, s_109_31, s_109_33, s_109_34, s_109_35, s_109_36, s_109_37, s_109_38, s_109_41, s_109_42I, s_109_42, s_109_43, s_109_46, s_109_47, s_109_48, s_109_49, s_109_50, s_109_51, s_109_52, s_109_55, s_109_58, s_109_60, s_109_61, s_109_62, s_109_63, s_109_66, s_109_67, s_109_69, s_109_70, s_109_71, s_109_72, s_109_73, s_109_77, s_109_80, s_109_81, s_109_82, s_109_83, s_109_84, s_109_86, s_109_87, s_109_91, s_109_93, s_109_94, s_109_97, s_109_100, true_and, and_true, sc0, sc1, sc2, sc3, sc4, Option.toList, List.cons_append, List.nil_append, clr, ne_eq, not_false_eq_true, not_true_eq_false, false_and, and_false, true_or, or_true, or_false, false_or, forall_const, Nat.reduceEqDiff, List.length_nil, List.length_cons, Nat.zero_le, Nat.reduceAdd, Nat.reduceLeDiff, false_implies, true_implies, Int.reduceEq, Int.reduceNe, Int.reduceLT, Int.reduceLE, Int.reduceNeg, Int.reduceToNat, Int.toNat_natCast, Nat.reduceLT, and_self, Decidable.not_not, kC_0, kC_1, kC_2, kC_3, kC_4, kC_5, kC_6, kC_7, kC_8, kC_9, kC_10, kC_11, kC_12, kC_13, kC_14, kC_15, kC_16, kC_17, kC_18, kC_19, kC_20, kC_21, kC_22, kC_23, kC_24, kC_25, kC_26, kC_27, kC_28, kC_29, kC_30, kC_31, kC_32, kC_145, kC_146, kC_147, kC_148, kC_149, kC_150, kC_151, kC_164, kC_165, kC_166, kC_167, kC_168, kC_169, kC_170, kC_171, kC_172, kC_173, kC_174, kC_175, kC_176, kC_177, kC_178, kC_179, kC_180, kC_181, kC_182, kC_183, kC_184, pC_1_0, pC_1_2, pC_1_3, pC_1_4, pC_1_5, pC_1_6, pC_1_7, pC_1_8, pC_1_9, pC_1_10, pC_1_11, pC_3_5, pC_5_0, pC_5_1, pC_5_2, pC_5_6, pC_5_7, pC_5_8, pC_5_9, pC_5_10, pC_13_0, pC_13_1, pC_13_2, pC_13_6, pC_13_7, pC_13_8, pC_13_9, pC_13_10, pC_21_0, pC_21_1, pC_21_2, pC_21_6, pC_21_7, pC_21_8, pC_21_9, pC_21_10, pC_29_0, pC_29_1, pC_29_2, pC_145_0, pC_145_1, pC_145_2, pC_145_3, pC_145_4, pC_149_0, pC_149_1, pC_149_2, pC_164_1, pC_164_2, pC_164_3, pC_168_0, pC_168_3, pC_168_4, pC_168_5, pC_172_0, pC_175_0, pC_175_2, pC_175_3, pC_175_5, pC_180_0, pC_180_2, pC_180_3, pC_180_5, g1, hne, bw, m170, q1, q1', two, EqW_o v1, EqW_o v2, e1, kp2, EqW_o hx, (EqW_o en)]
        exact this
      · have e1 : ¬ ((w j' / 2 : Nat) : Int) = ((w j / 2 : Nat) : Int) := by omega
        obtain ⟨a1, a2⟩ := aug_A hL hrs e
        have hGK : GrC K r c z := GrC_cg hG (kM 3 (by decide) (by decide)) (kM 4 (by decide) (by decide))
        by_cases o : w j' % 2 = 1
        · obtain ⟨x1, x2, d0, hd0, hb, hFi⟩ := a1 o
          have o1 : ((w j' % 2 : Nat) : Int) = 1 := by omega
          obtain ⟨xs, Ps, K2, eS, rfl, rfl, s1, s2⟩ := c_turnStep (b := b) hGK ⟨kp1, kp2, kp3⟩ (by omega) hd0 hb d (by omega)
          have := ih j' hj' (it + 1) th' (tA al' d0 (w j' / 2)) K2 (some (pI ((w j' : Nat) : Int))) (by omega) (by omega) s1 (FV_A kV hd0 (by omega) bj'.2 hb bj.2) (fun χ => by rw [hFi χ, kF χ]; omega) (fun a a' h1 h2 h3 => rs_A hL (kR a a' (by omega) (by omega) h3) hb (fun q => dist a' h2 (by omega)) (fun q => dist a h1 (by omega))) (fun o h1 h2 => by rw [s2 o h2]; exact kM o h1 h2)
          simp only [s_109_0, s_109_1, s_109_2, s_109_3, s_109_7, s_109_9, s_109_12, s_109_13, s_109_14, s_109_17, s_109_18, s_109_21, s_109_22, s_109_23, s_109_25, s_109_27, s_109_30, s_109_31, s_109_33, s_109_34, s_109_35, s_109_36, s_109_37, s_109_38, s_109_41, s_109_42I, s_109_42, s_109_43, s_109_46, s_109_47, s_109_48, s_109_49, s_109_50, s_109_51, s_109_52, s_109_55, s_109_58, s_109_60, s_109_61, s_109_62, s_109_63, s_109_66, s_109_67, s_109_69, s_109_70, s_109_71, s_109_72, s_109_73, s_109_77, s_109_80, s_109_81, s_109_82, s_109_83, s_109_84, s_109_86, s_109_87, s_109_91, s_109_93, s_109_94, s_109_97, s_109_100, true_and, and_true, sc0, sc1, sc2, sc3, sc4, Option.toList, List.cons_append, List.nil_append, clr, ne_eq, not_false_eq_true, not_true_eq_false, false_and, and_false, true_or, or_true, or_false, false_or, forall_const, Nat.reduceEqDiff, List.length_nil, List.length_cons, Nat.zero_le, Nat.reduceAdd, Nat.reduceLeDiff, false_implies, true_implies, Int.reduceEq, Int.reduceNe, Int.reduceLT, Int.reduceLE, Int.reduceNeg, Int.reduceToNat, Int.toNat_natCast, Nat.reduceLT, and_self, Decidable.not_not, kC_0, kC_1, kC_2, kC_3, kC_4, kC_5, kC_6, kC_7, kC_8, kC_9, kC_10, kC_11, kC_12, kC_13, kC_14, kC_15, kC_16, kC_17, kC_18, kC_19, kC_20, kC_21, kC_22, kC_23, kC_24, kC_25, kC_26, kC_27, kC_28, kC_29, kC_30, kC_31, kC_32, kC_145, kC_146, kC_147, kC_148, kC_149, kC_150, kC_151, kC_164, kC_165, kC_166, kC_167, kC_168, kC_169, kC_170, kC_171, kC_172, kC_173, kC_174, kC_175, kC_176, kC_177, kC_178, kC_179, kC_180, kC_181, kC_182, kC_183, kC_184, pC_1_0, pC_1_2, pC_1_3, pC_1_4, pC_1_5, pC_1_6, pC_1_7, pC_1_8, pC_1_9, pC_1_10, pC_1_11, pC_3_5, pC_5_0, pC_5_1, pC_5_2, pC_5_6, pC_5_7, pC_5_8, pC_5_9, pC_5_10, pC_13_0, pC_13_1, pC_13_2, pC_13_6, pC_13_7, pC_13_8, pC_13_9, pC_13_10, pC_21_0, pC_21_1, pC_21_2, pC_21_6, pC_21_7, pC_21_8, pC_21_9, pC_21_10, pC_29_0, pC_29_1, pC_29_2, pC_145_0, pC_145_1, pC_145_2, pC_145_3, pC_145_4, pC_149_0, pC_149_1, pC_149_2, pC_164_1, pC_164_2, pC_164_3, pC_168_0, pC_168_3, pC_168_4, pC_168_5, pC_172_0, pC_175_0, pC_175_2, pC_175_3, pC_175_5, pC_180_0, pC_180_2, pC_180_3, pC_180_5, g1, hne, bw, m170, q1, q1', two, EqW_o v1, EqW_o v2, e1, EqW_o v3, o1]
          refine s_109_74 (Nat.le_of_ble_eq_true rfl) kC_168 eS ?_
          simp only [s_109_0, s_109_1, s_109_2, s_109_3, s_109_7, s_109_9, s_109_12, s_109_13, s_109_14, s_109_17, s_109_18, s_109_21, s_109_22, s_109_23, s_109_25, s_109_27, s_109_30, s_109_31, s_109_33, s_109_34, s_109_35, s_109_36, s_109_37, s_109_38, s_109_41, s_109_42I, s_109_42, s_109_43, s_109_46, s_109_47, s_109_48, s_109_49, s_109_50, s_109_51, s_109_52, s_109_55, s_109_58, s_109_60, s_109_61, s_109_62, s_109_63, s_109_66, s_109_67, s_109_69, s_109_70, s_109_71, s_109_72, s_109_73, s_109_77, s_109_80, s_109_81, s_109_82, s_109_83, s_109_84, s_109_86, s_109_87, s_109_91, s_109_93, s_109_94, s_109_97, s_109_100, true_and, and_true, sc0, sc1, sc2, sc3, sc4, Option.toList, List.cons_append, List.nil_append, clr, ne_eq, not_false_eq_true, not_true_eq_false, false_and, and_false, true_or, or_true, or_false, false_or, forall_const, Nat.reduceEqDiff, List.length_nil, List.length_cons, Nat.zero_le, Nat.reduceAdd, Nat.reduceLeDiff, false_implies, true_implies, Int.reduceEq, Int.reduceNe, Int.reduceLT, Int.reduceLE, Int.reduceNeg, Int.reduceToNat, Int.toNat_natCast, Nat.reduceLT, and_self, Decidable.not_not, kC_0, kC_1, kC_2, kC_3, kC_4, kC_5, kC_6, kC_7, kC_8, kC_9, kC_10, kC_11, kC_12, kC_13, kC_14, kC_15, kC_16, kC_17, kC_18, kC_19, kC_20, kC_21, kC_22, kC_23, kC_24, kC_25, kC_26, kC_27, kC_28, kC_29, kC_30, kC_31, kC_32, kC_145, kC_146, kC_147, kC_148, kC_149, kC_150, kC_151, kC_164, kC_165, kC_166, kC_167, kC_168, kC_169, kC_170, kC_171, kC_172, kC_173, kC_174, kC_175, kC_176, kC_177, kC_178, kC_179, kC_180, kC_181, kC_182, kC_183, kC_184, pC_1_0, pC_1_2, pC_1_3, pC_1_4, pC_1_5, pC_1_6, pC_1_7, pC_1_8, pC_1_9, pC_1_10, pC_1_11, pC_3_5, pC_5_0, pC_5_1, pC_5_2, pC_5_6, pC_5_7, pC_5_8, pC_5_9, pC_5_10, pC_13_0, pC_13_1, pC_13_2, pC_13_6, pC_13_7, pC_13_8, pC_13_9, pC_13_10, pC_21_0, pC_21_1, pC_21_2, pC_21_6, pC_21_7, pC_21_8, pC_21_9, pC_21_10, pC_29_0, pC_29_1, pC_29_2, pC_145_0, pC_145_1, pC_145_2, pC_145_3, pC_145_4, pC_149_0, pC_149_1, pC_149_2, pC_164_1, pC_164_2, pC_164_3, pC_168_0, pC_168_3, pC_168_4, pC_168_5, pC_172_0, pC_175_0, pC_175_2, pC_175_3, pC_175_5, pC_180_0, pC_180_2, pC_180_3, pC_180_5, (EqW_o en)]
          exact this
        · obtain ⟨x1, x2, d0, hd0, hb, hFi⟩ := a2 o
          have o1 : ¬ ((w j' % 2 : Nat) : Int) = 1 := by omega
          obtain ⟨xs, Ps, K2, eS, rfl, rfl, s1, s2⟩ := c_turnStep (b := b) hGK ⟨kp1, kp2, kp3⟩ (by omega) hd0 hb d (by omega)
          have := ih j' hj' (it + 1) th' (tA al' d0 (w j / 2)) K2 (some (pI ((w j' : Nat) : Int))) (by omega) (by omega) s1 (FV_A kV hd0 (by omega) bj.2 hb bj'.2) (fun χ => by rw [hFi χ, kF χ]; omega) (fun a a' h1 h2 h3 => rs_A hL (kR a a' (by omega) (by omega) h3) hb (fun q => dist a h1 (by omega)) (fun q => dist a' h2 (by omega))) (fun o h1 h2 => by rw [s2 o h2]; exact kM o h1 h2)
          simp only [s_109_0, s_109_1, s_109_2, s_109_3, s_109_7, s_109_9, s_109_12, s_109_13, s_109_14, s_109_17, s_109_18, s_109_21, s_109_22, s_109_23, s_109_25, s_109_27, s_109_30, s_109_31, s_109_33, s_109_34, s_109_35, s_109_36, s_109_37, s_109_38, s_109_41, s_109_42I, s_109_42, s_109_43, s_109_46, s_109_47, s_109_48, s_109_49, s_109_50, s_109_51, s_109_52, s_109_55, s_109_58, s_109_60, s_109_61, s_109_62, s_109_63, s_109_66, s_109_67, s_109_69, s_109_70, s_109_71, s_109_72, s_109_73, s_109_77, s_109_80, s_109_81, s_109_82, s_109_83, s_109_84, s_109_86, s_109_87, s_109_91, s_109_93, s_109_94, s_109_97, s_109_100, true_and, and_true, sc0, sc1, sc2, sc3, sc4, Option.toList, List.cons_append, List.nil_append, clr, ne_eq, not_false_eq_true, not_true_eq_false, false_and, and_false, true_or, or_true, or_false, false_or, forall_const, Nat.reduceEqDiff, List.length_nil, List.length_cons, Nat.zero_le, Nat.reduceAdd, Nat.reduceLeDiff, false_implies, true_implies, Int.reduceEq, Int.reduceNe, Int.reduceLT, Int.reduceLE, Int.reduceNeg, Int.reduceToNat, Int.toNat_natCast, Nat.reduceLT, and_self, Decidable.not_not, kC_0, kC_1, kC_2, kC_3, kC_4, kC_5, kC_6, kC_7, kC_8, kC_9, kC_10, kC_11, kC_12, kC_13, kC_14, kC_15, kC_16, kC_17, kC_18, kC_19, kC_20, kC_21, kC_22, kC_23, kC_24, kC_25, kC_26, kC_27, kC_28, kC_29, kC_30, kC_31, kC_32, kC_145, kC_146, kC_147, kC_148, kC_149, kC_150, kC_151, kC_164, kC_165, kC_166, kC_167, kC_168, kC_169, kC_170, kC_171, kC_172, kC_173, kC_174, kC_175, kC_176, kC_177, kC_178, kC_179, kC_180, kC_181, kC_182, kC_183, kC_184, pC_1_0, pC_1_2, pC_1_3, pC_1_4, pC_1_5, pC_1_6, pC_1_7, pC_1_8, pC_1_9, pC_1_10, pC_1_11, pC_3_5, pC_5_0, pC_5_1, pC_5_2, pC_5_6, pC_5_7, pC_5_8, pC_5_9, pC_5_10, pC_13_0, pC_13_1, pC_13_2, pC_13_6, pC_13_7, pC_13_8, pC_13_9, pC_13_10, pC_21_0, pC_21_1, pC_21_2, pC_21_6, pC_21_7, pC_21_8, pC_21_9, pC_21_10, pC_29_0, pC_29_1, pC_29_2, pC_145_0, pC_145_1, pC_145_2, pC_145_3, pC_145_4, pC_149_0, pC_149_1, pC_149_2, pC_164_1, pC_164_2, pC_164_3, pC_168_0, pC_168_3, pC_168_4, pC_168_5, pC_172_0, pC_175_0, pC_175_2, pC_175_3, pC_175_5, pC_180_0, pC_180_2, pC_180_3, pC_180_5, g1, hne, bw, m170, q1, q1', two, EqW_o v1, EqW_o v2, e1, EqW_o v3, o1]
          refine s_109_88 (Nat.le_of_ble_eq_true rfl) kC_168 eS ?_
          simp only [s_109_0, s_109_1, s_109_2, s_109_3, s_109_7, s_109_9, s_109_12, s_109_13, s_109_14, s_109_17, s_109_18, s_109_21, s_109_22, s_109_23, s_109_25, s_109_27, s_109_30, s_109_31, s_109_33, s_109_34, s_109_35, s_109_36, s_109_37, s_109_38, s_109_41, s_109_42I, s_109_42, s_109_43, s_109_46, s_109_47, s_109_48, s_109_49, s_109_50, s_109_51, s_109_52, s_109_55, s_109_58, s_109_60, s_109_61, s_109_62, s_109_63, s_109_66, s_109_67, s_109_69, s_109_70, s_109_71, s_109_72, s_109_73, s_109_77, s_109_80, s_109_81, s_109_82, s_109_83, s_109_84, s_109_86, s_109_87, s_109_91, s_109_93, s_109_94, s_109_97, s_109_100, true_and, and_true, sc0, sc1, sc2, sc3, sc4, Option.toList, List.cons_append, List.nil_append, clr, ne_eq, not_false_eq_true, not_true_eq_false, false_and, and_false, true_or, or_true, or_false, false_or, forall_const, Nat.reduceEqDiff, List.length_nil, List.length_cons, Nat.zero_le, Nat.reduceAdd, Nat.reduceLeDiff, false_implies, true_implies, Int.reduceEq, Int.reduceNe, Int.reduceLT, Int.reduceLE, Int.reduceNeg, Int.reduceToNat, Int.toNat_natCast, Nat.reduceLT, and_self, Decidable.not_not, kC_0, kC_1, kC_2, kC_3, kC_4, kC_5, kC_6, kC_7, kC_8, kC_9, kC_10, kC_11, kC_12, kC_13, kC_14, kC_15, kC_16, kC_17, kC_18, kC_19, kC_20, kC_21, kC_22, kC_23, kC_24, kC_25, kC_26, kC_27, kC_28, kC_29, kC_30, kC_31, kC_32, kC_145, kC_146, kC_147, kC_148, kC_149, kC_150, kC_151, kC_164, kC_165, kC_166, kC_167, kC_168, kC_169, kC_170, kC_171, kC_172, kC_173, kC_174, kC_175, kC_176, kC_177, kC_178, kC_179, kC_180, kC_181, kC_182, kC_183, kC_184, pC_1_0, pC_1_2, pC_1_3, pC_1_4, pC_1_5, pC_1_6, pC_1_7, pC_1_8, pC_1_9, pC_1_10, pC_1_11, pC_3_5, pC_5_0, pC_5_1, pC_5_2, pC_5_6, pC_5_7, pC_5_8, pC_5_9, pC_5_10, pC_13_0, pC_13_1, pC_13_2, pC_13_6, pC_13_7, pC_13_8, pC_13_9, pC_13_10, pC_21_0, pC_21_1, pC_21_2, pC_21_6, pC_21_7, pC_21_8, pC_21_9, pC_21_10, pC_29_0, pC_29_1, pC_29_2, pC_145_0, pC_145_1, pC_145_2, pC_145_3, pC_145_4, pC_149_0, pC_149_1, pC_149_2, pC_164_1, pC_164_2, pC_164_3, pC_168_0, pC_168_3, pC_168_4, pC_168_5, pC_172_0, pC_175_0, pC_175_2, pC_175_3, pC_175_5, pC_180_0, pC_180_2, pC_180_3, pC_180_5, (EqW_o en)]
          exact this
  have := main i 0 th al M none (Nat.le_refl _) (by omega) hP hV (fun χ => by rw [hF χ, hwi]; omega) (fun _ _ _ _ h => h) (fun _ _ _ => rfl)
  rw [hwi] at this
  simp only [s_109_0, s_109_1, s_109_2, s_109_3, s_109_7, s_109_9, s_109_12, s_109_13, s_109_14, s_109_17, s_109_18, s_109_21, s_109_22, s_109_23, s_109_25, s_109_27, s_109_30, s_109_31, s_109_33, s_109_34, s_109_35, s_109_36, s_109_37, s_109_38, s_109_41, s_109_42I, s_109_42, s_109_43, s_109_46, s_109_47, s_109_48, s_109_49, s_109_50, s_109_51, s_109_52, s_109_55, s_109_58, s_109_60, s_109_61, s_109_62, s_109_63, s_109_66, s_109_67, s_109_69, s_109_70, s_109_71, s_109_72, s_109_73, s_109_77, s_109_80, s_109_81, s_109_82, s_109_83, s_109_84, s_109_86, s_109_87, s_109_91, s_109_93, s_109_94, s_109_97, s_109_100, true_and, and_true, sc0, sc1, sc2, sc3, sc4, Option.toList, List.cons_append, List.nil_append, clr, ne_eq, not_false_eq_true, not_true_eq_false, false_and, and_false, true_or, or_true, or_false, false_or, forall_const, Nat.reduceEqDiff, List.length_nil, List.length_cons, Nat.zero_le, Nat.reduceAdd, Nat.reduceLeDiff, false_implies, true_implies, Int.reduceEq, Int.reduceNe, Int.reduceLT, Int.reduceLE, Int.reduceNeg, Int.reduceToNat, Int.toNat_natCast, Nat.reduceLT, and_self, Decidable.not_not, kC_0, kC_1, kC_2, kC_3, kC_4, kC_5, kC_6, kC_7, kC_8, kC_9, kC_10, kC_11, kC_12, kC_13, kC_14, kC_15, kC_16, kC_17, kC_18, kC_19, kC_20, kC_21, kC_22, kC_23, kC_24, kC_25, kC_26, kC_27, kC_28, kC_29, kC_30, kC_31, kC_32, kC_145, kC_146, kC_147, kC_148, kC_149, kC_150, kC_151, kC_164, kC_165, kC_166, kC_167, kC_168, kC_169, kC_170, kC_171, kC_172, kC_173, kC_174, kC_175, kC_176, kC_177, kC_178, kC_179, kC_180, kC_181, kC_182, kC_183, kC_184, pC_1_0, pC_1_2, pC_1_3, pC_1_4, pC_1_5, pC_1_6, pC_1_7, pC_1_8, pC_1_9, pC_1_10, pC_1_11, pC_3_5, pC_5_0, pC_5_1, pC_5_2, pC_5_6, pC_5_7, pC_5_8, pC_5_9, pC_5_10, pC_13_0, pC_13_1, pC_13_2, pC_13_6, pC_13_7, pC_13_8, pC_13_9, pC_13_10, pC_21_0, pC_21_1, pC_21_2, pC_21_6, pC_21_7, pC_21_8, pC_21_9, pC_21_10, pC_29_0, pC_29_1, pC_29_2, pC_145_0, pC_145_1, pC_145_2, pC_145_3, pC_145_4, pC_149_0, pC_149_1, pC_149_2, pC_164_1, pC_164_2, pC_164_3, pC_168_0, pC_168_3, pC_168_4, pC_168_5, pC_172_0, pC_175_0, pC_175_2, pC_175_3, pC_175_5, pC_180_0, pC_180_2, pC_180_3, pC_180_5]
  exact this
end
