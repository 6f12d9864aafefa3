/-! nextOf, follow, seek -/
/-- an equation that omega doesn't see -/
def EqW (a b : Int) : Prop := a = b
theorem EqW_i {a b : Int} (h : a = b) : EqW a b := h
theorem EqW_o {a b : Int} (h : EqW a b) : a = b := h
theorem nxt_cg {c z f : Nat} {h D D' : Nat → Int} (hL : Lnd c z) (hf : f < z) (he : ∀ g, g < z → D g = D' g) : nxt c z h D f = nxt c z h D' f := by
  have key : ∀ d, d < 4 → (okN h D f (bsd c z f d) ↔ okN h D' f (bsd c z f d)) := by
    intro d hd
    unfold okN
    by_cases g : 0 ≤ bsd c z f d
    · have := bsd_lt hL hf hd rfl g
      rw [he f hf, he (bsd c z f d).toNat (by omega)]
    · constructor <;> intro q <;> exact absurd q.1 g
  unfold nxt
  simp only [key 0 (by omega), key 1 (by omega), key 2 (by omega), key 3 (by omega)]
theorem nxt_at {c z f d : Nat} {h D : Nat → Int} (hd : d < 4) (ho : okN h D f (bsd c z f d)) (hn : ∀ e, e < d → ¬ okN h D f (bsd c z f e)) : nxt c z h D f = (bsd c z f d).toNat := by
  unfold nxt
  have : d = 0 ∨ d = 1 ∨ d = 2 ∨ d = 3 := by omega
  rcases this with rfl | rfl | rfl | rfl
  · rw [if_pos ho]
  · rw [if_neg (hn 0 (by omega)), if_pos ho]
  · rw [if_neg (hn 0 (by omega)), if_neg (hn 1 (by omega)), if_pos ho]
  · rw [if_neg (hn 0 (by omega)), if_neg (hn 1 (by omega)), if_neg (hn 2 (by omega)), if_pos ho]
theorem nxt_no {c z f : Nat} {h D : Nat → Int} (hn : ∀ e, e < 4 → ¬ okN h D f (bsd c z f e)) : nxt c z h D f = f := by
  unfold nxt
  rw [if_neg (hn 0 (by omega)), if_neg (hn 1 (by omega)), if_neg (hn 2 (by omega)), if_neg (hn 3 (by omega))]
theorem pwk_cg {c z s : Nat} {h D D' : Nat → Int} (hL : Lnd c z) (he : ∀ g, g < z → D g = D' g) : ∀ {k : Nat}, (∀ j, j < k → pwk c z h D' s j < z) → pwk c z h D s k = pwk c z h D' s k
  | 0, _ => rfl
  | k + 1, hk => by
    show nxt c z h D (pwk c z h D s k) = nxt c z h D' (pwk c z h D' s k)
    rw [pwk_cg hL he (fun j hj => hk j (by omega)), nxt_cg hL (hk k (by omega)) he]
/-- a field on the path -/
noncomputable def onW (c z : Nat) (h : Nat → Int) (s t f : Nat) : Bool := decide (∃ k, k < pN c z h s t ∧ pW c z h s t k = f)
/-- the path in the class's Path g -/
def PaC (M : MM) (g c z : Nat) (h : Nat → Int) (s t : Nat) : Prop := M (152 + 2 * g) 0 = (if hasP c z h s t then pV c z h s t else 0) ∧ M (152 + 2 * g) 1 = (pN c z h s t : Int) ∧ M (152 + 2 * g) 2 = ((bs (onW c z h s t) z : Nat) : Int) ∧ ∀ k, k < pN c z h s t → M (153 + 2 * g) k = (pW c z h s t k : Int)
theorem same_trans {M M' M'' : MM} {S T : List Nat} (h : same M' M S) (h2 : same M'' M' T) (hS : ∀ x, x ∈ S → x ∈ T) : same M'' M T := fun p hp => (h2 p hp).trans (h p (fun q => hp (hS p q)))
theorem same_mono {M M' : MM} {S T : List Nat} (h : same M' M S) (hS : ∀ x, x ∈ S → x ∈ T) : same M' M T := fun p hp => h p (fun q => hp (hS p q))
theorem same_u {M M' : MM} {S : List Nat} {o k : Nat} {v : Int} (h : same M' M S) (ho : o ∈ S) : same (uM M' o k v) M S := fun p hp => by
  have e : p ≠ o := fun q => hp (q ▸ ho)
  rw [uM_ne e]; exact h p hp
section
variable {M : MM} {b : Bool} {r c z s t : Nat} {h : Nat → Int}
theorem c_nextOf {f : Nat} (hG : GrC M r c z) (hH : Hd z h) (hC : CoC M h z) (hB : ∀ f, f < z → 0 ≤ M 151 f ∧ M 151 f ≤ NV) (hf : f < z) : Ct 1 63 [pR 149, pI (f : Int)] LC (PC b) M (some (pI (nxt c z h (M 151) f : Int))) (PC b) M := by
  refine Ct_r [some (pR 149), some (pI (f : Int)), none, none] (Nat.le_of_ble_eq_true rfl) rfl (fun d hd Q X hq => ?_)
  have hz := GrC_z hG
  have hL := GrC_L hG
  have b2 : (0 : Int) ≤ (f : Int) := by omega
  have b3 : (f : Int) < ((36 : Nat) : Int) := by omega
  simp only [s_63_0, s_63_1, s_63_3, s_63_4, s_63_7, s_63_8, s_63_11, s_63_14, s_63_15, s_63_16, s_63_17, s_63_18, s_63_19, s_63_20, s_63_21, s_63_22, s_63_25, s_63_26, s_63_29, s_63_30, s_63_31, s_63_34, s_63_35, s_63_38, s_63_39, s_63_40, s_63_41, s_63_44, s_63_45, s_63_46, s_63_47, s_63_48, s_63_51, s_63_52, s_63_53, s_63_56, s_63_57, s_63_58, s_63_61, s_63_64, s_63_65, true_and, and_true, sc0, sc1, sc2, sc3, sc4, Option.toList, List.cons_append, List.nil_append, clr, ne_eq, not_false_eq_true, not_true_eq_false, false_and, and_false, true_or, or_true, or_false, false_or, forall_const, Nat.reduceEqDiff, List.length_nil, List.length_cons, Nat.zero_le, Nat.reduceAdd, Nat.reduceLeDiff, false_implies, true_implies, Int.reduceEq, Int.reduceNe, Int.reduceLT, Int.reduceLE, Int.reduceNeg, Int.reduceToNat, Int.toNat_natCast, Nat.reduceLT, and_self, Decidable.not_not, kC_0, kC_1, kC_2, kC_3, kC_4, kC_5, kC_6, kC_7, kC_8, kC_9, kC_10, kC_11, kC_12, kC_13, kC_14, kC_15, kC_16, kC_17, kC_18, kC_19, kC_20, kC_21, kC_22, kC_23, kC_24, kC_25, kC_26, kC_27, kC_28, kC_29, kC_30, kC_31, kC_32, kC_145, kC_146, kC_147, kC_148, kC_149, kC_150, kC_151, kC_164, kC_165, kC_166, kC_167, kC_168, kC_169, kC_170, kC_171, kC_172, kC_173, kC_174, kC_175, kC_176, kC_177, kC_178, kC_179, kC_180, kC_181, kC_182, kC_183, kC_184, pC_1_0, pC_1_2, pC_1_3, pC_1_4, pC_1_5, pC_1_6, pC_1_7, pC_1_8, pC_1_9, pC_1_10, pC_1_11, pC_3_5, pC_5_0, pC_5_1, pC_5_2, pC_5_6, pC_5_7, pC_5_8, pC_5_9, pC_5_10, pC_13_0, pC_13_1, pC_13_2, pC_13_6, pC_13_7, pC_13_8, pC_13_9, pC_13_10, pC_21_0, pC_21_1, pC_21_2, pC_21_6, pC_21_7, pC_21_8, pC_21_9, pC_21_10, pC_29_0, pC_29_1, pC_29_2, pC_145_0, pC_145_1, pC_145_2, pC_145_3, pC_145_4, pC_149_0, pC_149_1, pC_149_2, pC_164_1, pC_164_2, pC_164_3, pC_168_0, pC_168_3, pC_168_4, pC_168_5, pC_172_0, pC_175_0, pC_175_2, pC_175_3, pC_175_5, pC_180_0, pC_180_2, pC_180_3, pC_180_5]
  refine lup (α := Option PV) (I := fun i _ => ∀ e, e < i → ¬ okN h (M 151) f (bsd c z f e)) (G := fun i x => wpB (Ev d) 63 Q X 2 [some (pR 149), some (pI (f : Int)), some (pI (i : Int)), x] [] (kz LC) (PC b) M) 4 (fun x hx => ?_) (fun i x hi hx ih => ?_) 0 none (Nat.zero_le _) (fun e he => absurd he (Nat.not_lt_zero _))
  · rw [s_63_2]
    rw [nxt_no hx] at hq
    have e5 : (4 : Int) ≤ ((4 : Nat) : Int) := by decide
    simp only [s_63_0, s_63_1, s_63_3, s_63_4, s_63_7, s_63_8, s_63_11, s_63_14, s_63_15, s_63_16, s_63_17, s_63_18, s_63_19, s_63_20, s_63_21, s_63_22, s_63_25, s_63_26, s_63_29, s_63_30, s_63_31, s_63_34, s_63_35, s_63_38, s_63_39, s_63_40, s_63_41, s_63_44, s_63_45, s_63_46, s_63_47, s_63_48, s_63_51, s_63_52, s_63_53, s_63_56, s_63_57, s_63_58, s_63_61, s_63_64, s_63_65, true_and, and_true, sc0, sc1, sc2, sc3, sc4, Option.toList, List.cons_append, List.nil_append, clr, ne_eq, not_false_eq_true, not_true_eq_false, false_and, and_false, true_or, or_true, or_false, false_or, forall_const, Nat.reduceEqDiff, List.length_nil, List.length_cons, Nat.zero_le, Nat.reduceAdd, Nat.reduceLeDiff, false_implies, true_implies, Int.reduceEq, Int.reduceNe, Int.reduceLT, Int.reduceLE, Int.reduceNeg, Int.reduceToNat, Int.toNat_natCast, Nat.reduceLT, and_self, Decidable.not_not, kC_0, kC_1, kC_2, kC_3, kC_4, kC_5, kC_6, kC_7, kC_8, kC_9, kC_10, kC_11, kC_12, kC_13, kC_14, kC_15, kC_16, kC_17, kC_18, kC_19, kC_20, kC_21, kC_22, kC_23, kC_24, kC_25, kC_26, kC_27, kC_28, kC_29, kC_30, kC_31, kC_32, kC_145, kC_146, kC_147, kC_148, kC_149, kC_150, kC_151, kC_164, kC_165, kC_166, kC_167, kC_168, kC_169, kC_170, kC_171, kC_172, kC_173, kC_174, kC_175, kC_176, kC_177, kC_178, kC_179, kC_180, kC_181, kC_182, kC_183, kC_184, pC_1_0, pC_1_2, pC_1_3, pC_1_4, pC_1_5, pC_1_6, pC_1_7, pC_1_8, pC_1_9, pC_1_10, pC_1_11, pC_3_5, pC_5_0, pC_5_1, pC_5_2, pC_5_6, pC_5_7, pC_5_8, pC_5_9, pC_5_10, pC_13_0, pC_13_1, pC_13_2, pC_13_6, pC_13_7, pC_13_8, pC_13_9, pC_13_10, pC_21_0, pC_21_1, pC_21_2, pC_21_6, pC_21_7, pC_21_8, pC_21_9, pC_21_10, pC_29_0, pC_29_1, pC_29_2, pC_145_0, pC_145_1, pC_145_2, pC_145_3, pC_145_4, pC_149_0, pC_149_1, pC_149_2, pC_164_1, pC_164_2, pC_164_3, pC_168_0, pC_168_3, pC_168_4, pC_168_5, pC_172_0, pC_175_0, pC_175_2, pC_175_3, pC_175_5, pC_180_0, pC_180_2, pC_180_3, pC_180_5, e5]
    exact hq
  · rw [s_63_2]
    have en := EqW_i (w32n (show i < 1000000 by omega))
    have e5 : ¬ (4 : Int) ≤ (i : Int) := by omega
    have e6 : EqW (w32 (4 * (f : Int))) (((4 * f : Nat) : Int)) := EqW_i <| by unfold w32; omega
    have e7 : EqW (w32 (((4 * f : Nat) : Int) + (i : Int))) (((4 * f + i : Nat) : Int)) := EqW_i <| by unfold w32; omega
    have b0 : (0 : Int) ≤ ((4 * f + i : Nat) : Int) := by omega
    have b1 : ((4 * f + i : Nat) : Int) < ((144 : Nat) : Int) := by omega
    have e8 : M 4 (4 * f + i) = bsd c z f i := GrC_b hG hf hi
    have hno : ¬ okN h (M 151) f (bsd c z f i) → ∀ e, e < i + 1 → ¬ okN h (M 151) f (bsd c z f e) := by
      intro q e he
      rcases Nat.lt_succ_iff_lt_or_eq.mp he with q2 | q2
      · exact hx e q2
      · subst q2; exact q
    by_cases g : bsd c z f i < 0
    · simp only [s_63_0, s_63_1, s_63_3, s_63_4, s_63_7, s_63_8, s_63_11, s_63_14, s_63_15, s_63_16, s_63_17, s_63_18, s_63_19, s_63_20, s_63_21, s_63_22, s_63_25, s_63_26, s_63_29, s_63_30, s_63_31, s_63_34, s_63_35, s_63_38, s_63_39, s_63_40, s_63_41, s_63_44, s_63_45, s_63_46, s_63_47, s_63_48, s_63_51, s_63_52, s_63_53, s_63_56, s_63_57, s_63_58, s_63_61, s_63_64, s_63_65, true_and, and_true, sc0, sc1, sc2, sc3, sc4, Option.toList, List.cons_append, List.nil_append, clr, ne_eq, not_false_eq_true, not_true_eq_false, false_and, and_false, true_or, or_true, or_false, false_or, forall_const, Nat.reduceEqDiff, List.length_nil, List.length_cons, Nat.zero_le, Nat.reduceAdd, Nat.reduceLeDiff, false_implies, true_implies, Int.reduceEq, Int.reduceNe, Int.reduceLT, Int.reduceLE, Int.reduceNeg, Int.reduceToNat, Int.toNat_natCast, Nat.reduceLT, and_self, Decidable.not_not, kC_0, kC_1, kC_2, kC_3, kC_4, kC_5, kC_6, kC_7, kC_8, kC_9, kC_10, kC_11, kC_12, kC_13, kC_14, kC_15, kC_16, kC_17, kC_18, kC_19, kC_20, kC_21, kC_22, kC_23, kC_24, kC_25, kC_26, kC_27, kC_28, kC_29, kC_30, kC_31, kC_32, kC_145, kC_146, kC_147, kC_148, kC_149, kC_150, kC_151, kC_164, kC_165, kC_166, kC_167, kC_168, kC_169, kC_170, kC_171, kC_172, kC_173, kC_174, kC_175, kC_176, kC_177, kC_178, kC_179, kC_180, kC_181, kC_182, kC_183, kC_184, pC_1_0, pC_1_2, pC_1_3, pC_1_4, pC_1_5, pC_1_6, pC_1_7, pC_1_8, pC_1_9, pC_1_10, pC_1_11, pC_3_5, pC_5_0, pC_5_1, pC_5_2, pC_5_6, pC_5_7, pC_5_8, pC_5_9, pC_5_10, pC_13_0, pC_13_1, pC_13_2, pC_13_6, pC_13_7, pC_13_8, pC_13_9, pC_13_10, pC_21_0, pC_21_1, pC_21_2, pC_21_6, pC_21_7, pC_21_8, pC_21_9, pC_21_10, pC_29_0, pC_29_1, pC_29_2, pC_145_0, pC_145_1, pC_145_2, pC_145_3, pC_145_4, pC_149_0, pC_149_1, pC_149_2, pC_164_1, pC_164_2, pC_164_3, pC_168_0, pC_168_3, pC_168_4, pC_168_5, pC_172_0, pC_175_0, pC_175_2, pC_175_3, pC_175_5, pC_180_0, pC_180_2, pC_180_3, pC_180_5, e5, (EqW_o e6), (EqW_o e7), e8, g, b0, b1, (EqW_o en)]
      exact ih _ (hno (fun q => by have := q.1; omega))
    · obtain ⟨n, hn⟩ : ∃ n : Nat, bsd c z f i = (n : Int) := ⟨(bsd c z f i).toNat, by rw [Int.toNat_of_nonneg (Int.not_lt.mp g)]⟩
      have hnz : n < z := Nbr_lt hL hf ⟨i, hi, hn⟩
      have b4 : (0 : Int) ≤ (n : Int) := Int.natCast_nonneg n
      have b5 : (n : Int) < ((36 : Nat) : Int) := Int.ofNat_lt.mpr (Nat.lt_of_lt_of_le hnz hz.2)
      have g' : ¬ (n : Int) < 0 := Int.not_lt.mpr b4
      by_cases g2 : 0 < h n
      case neg =>
        have e10 : M 150 n ≤ 0 := by rw [hC n hnz, if_neg g2]; exact Int.le_refl 0
        simp only [s_63_0, s_63_1, s_63_3, s_63_4, s_63_7, s_63_8, s_63_11, s_63_14, s_63_15, s_63_16, s_63_17, s_63_18, s_63_19, s_63_20, s_63_21, s_63_22, s_63_25, s_63_26, s_63_29, s_63_30, s_63_31, s_63_34, s_63_35, s_63_38, s_63_39, s_63_40, s_63_41, s_63_44, s_63_45, s_63_46, s_63_47, s_63_48, s_63_51, s_63_52, s_63_53, s_63_56, s_63_57, s_63_58, s_63_61, s_63_64, s_63_65, true_and, and_true, sc0, sc1, sc2, sc3, sc4, Option.toList, List.cons_append, List.nil_append, clr, ne_eq, not_false_eq_true, not_true_eq_false, false_and, and_false, true_or, or_true, or_false, false_or, forall_const, Nat.reduceEqDiff, List.length_nil, List.length_cons, Nat.zero_le, Nat.reduceAdd, Nat.reduceLeDiff, false_implies, true_implies, Int.reduceEq, Int.reduceNe, Int.reduceLT, Int.reduceLE, Int.reduceNeg, Int.reduceToNat, Int.toNat_natCast, Nat.reduceLT, and_self, Decidable.not_not, kC_0, kC_1, kC_2, kC_3, kC_4, kC_5, kC_6, kC_7, kC_8, kC_9, kC_10, kC_11, kC_12, kC_13, kC_14, kC_15, kC_16, kC_17, kC_18, kC_19, kC_20, kC_21, kC_22, kC_23, kC_24, kC_25, kC_26, kC_27, kC_28, kC_29, kC_30, kC_31, kC_32, kC_145, kC_146, kC_147, kC_148, kC_149, kC_150, kC_151, kC_164, kC_165, kC_166, kC_167, kC_168, kC_169, kC_170, kC_171, kC_172, kC_173, kC_174, kC_175, kC_176, kC_177, kC_178, kC_179, kC_180, kC_181, kC_182, kC_183, kC_184, pC_1_0, pC_1_2, pC_1_3, pC_1_4, pC_1_5, pC_1_6, pC_1_7, pC_1_8, pC_1_9, pC_1_10, pC_1_11, pC_3_5, pC_5_0, pC_5_1, pC_5_2, pC_5_6, pC_5_7, pC_5_8, pC_5_9, pC_5_10, pC_13_0, pC_13_1, pC_13_2, pC_13_6, pC_13_7, pC_13_8, pC_13_9, pC_13_10, pC_21_0, pC_21_1, pC_21_2, pC_21_6, pC_21_7, pC_21_8, pC_21_9, pC_21_10, pC_29_0, pC_29_1, pC_29_2, pC_145_0, pC_145_1, pC_145_2, pC_145_3, pC_145_4, pC_149_0, pC_149_1, pC_149_2, pC_164_1, pC_164_2, pC_164_3, pC_168_0, pC_168_3, pC_168_4, pC_168_5, pC_172_0, pC_175_0, pC_175_2, pC_175_3, pC_175_5, pC_180_0, pC_180_2, pC_180_3, pC_180_5, e5, (EqW_o e6), (EqW_o e7), e8, hn, g', e10, b0, b1, b4, b5, (EqW_o en)]
        exact ih _ (hno (fun q => by rw [hn] at q; exact g2 (by simpa using q.2.1)))
      have hcn : M 150 n = cst h n := by rw [hC n hnz, if_pos g2]
      have e12 : EqW (w32 (M 151 n + cst h n)) (M 151 n + cst h n) := EqW_i <| by
        have nb := hH n hnz
        have bn := hB n hnz
        clear e8 hn hcn hno hx hq ih
        unfold NV at bn
        unfold cst w32
        omega
      have e10 : ¬ cst h n ≤ 0 := by unfold cst; omega
      by_cases g3 : M 151 n + cst h n = M 151 f
      · have hok : okN h (M 151) f (bsd c z f i) := by
          rw [hn]; exact ⟨b4, by simpa using g2, by simpa using g3⟩
        rw [nxt_at hi hok hx, hn, Int.toNat_natCast] at hq
        have e13 : EqW (w32 (M 151 n + cst h n)) (M 151 f) := EqW_i <| by rw [(EqW_o e12), g3]
        simp only [s_63_0, s_63_1, s_63_3, s_63_4, s_63_7, s_63_8, s_63_11, s_63_14, s_63_15, s_63_16, s_63_17, s_63_18, s_63_19, s_63_20, s_63_21, s_63_22, s_63_25, s_63_26, s_63_29, s_63_30, s_63_31, s_63_34, s_63_35, s_63_38, s_63_39, s_63_40, s_63_41, s_63_44, s_63_45, s_63_46, s_63_47, s_63_48, s_63_51, s_63_52, s_63_53, s_63_56, s_63_57, s_63_58, s_63_61, s_63_64, s_63_65, true_and, and_true, sc0, sc1, sc2, sc3, sc4, Option.toList, List.cons_append, List.nil_append, clr, ne_eq, not_false_eq_true, not_true_eq_false, false_and, and_false, true_or, or_true, or_false, false_or, forall_const, Nat.reduceEqDiff, List.length_nil, List.length_cons, Nat.zero_le, Nat.reduceAdd, Nat.reduceLeDiff, false_implies, true_implies, Int.reduceEq, Int.reduceNe, Int.reduceLT, Int.reduceLE, Int.reduceNeg, Int.reduceToNat, Int.toNat_natCast, Nat.reduceLT, and_self, Decidable.not_not, kC_0, kC_1, kC_2, kC_3, kC_4, kC_5, kC_6, kC_7, kC_8, kC_9, kC_10, kC_11, kC_12, kC_13, kC_14, kC_15, kC_16, kC_17, kC_18, kC_19, kC_20, kC_21, kC_22, kC_23, kC_24, kC_25, kC_26, kC_27, kC_28, kC_29, kC_30, kC_31, kC_32, kC_145, kC_146, kC_147, kC_148, kC_149, kC_150, kC_151, kC_164, kC_165, kC_166, kC_167, kC_168, kC_169, kC_170, kC_171, kC_172, kC_173, kC_174, kC_175, kC_176, kC_177, kC_178, kC_179, kC_180, kC_181, kC_182, kC_183, kC_184, pC_1_0, pC_1_2, pC_1_3, pC_1_4, pC_1_5, pC_1_6, pC_1_7, pC_1_8, pC_1_9, pC_1_10, pC_1_11, pC_3_5, pC_5_0, pC_5_1, pC_5_2, pC_5_6, pC_5_7, pC_5_8, pC_5_9, pC_5_10, pC_13_0, pC_13_1, pC_13_2, pC_13_6, pC_13_7, pC_13_8, pC_13_9, pC_13_10, pC_21_0, pC_21_1, pC_21_2, pC_21_6, pC_21_7, pC_21_8, pC_21_9, pC_21_10, pC_29_0, pC_29_1, pC_29_2, pC_145_0, pC_145_1, pC_145_2, pC_145_3, pC_145_4, pC_149_0, pC_149_1, pC_149_2, pC_164_1, pC_164_2, pC_164_3, pC_168_0, pC_168_3, pC_168_4, pC_168_5, pC_172_0, pC_175_0, pC_175_2, pC_175_3, pC_175_5, pC_180_0, pC_180_2, pC_180_3, pC_180_5, e5, (EqW_o e6), (EqW_o e7), e8, hn, g', hcn, e10, (EqW_o e13), b0, b1, b2, b3, b4, b5, (EqW_o en)]
        exact hq
      · simp only [s_63_0, s_63_1, s_63_3, s_63_4, s_63_7, s_63_8, s_63_11, s_63_14, s_63_15, s_63_16, s_63_17, s_63_18, s_63_19, s_63_20, s_63_21, s_63_22, s_63_25, s_63_26, s_63_29, s_63_30, s_63_31, s_63_34, s_63_35, s_63_38, s_63_39, s_63_40, s_63_41, s_63_44, s_63_45, s_63_46, s_63_47, s_63_48, s_63_51, s_63_52, s_63_53, s_63_56, s_63_57, s_63_58, s_63_61, s_63_64, s_63_65, true_and, and_true, sc0, sc1, sc2, sc3, sc4, Option.toList, List.cons_append, List.nil_append, clr, ne_eq, not_false_eq_true, not_true_eq_false, false_and, and_false, true_or, or_true, or_false, false_or, forall_const, Nat.reduceEqDiff, List.length_nil, List.length_cons, Nat.zero_le, Nat.reduceAdd, Nat.reduceLeDiff, false_implies, true_implies, Int.reduceEq, Int.reduceNe, Int.reduceLT, Int.reduceLE, Int.reduceNeg, Int.reduceToNat, Int.toNat_natCast, Nat.reduceLT, and_self, Decidable.not_not, kC_0, kC_1, kC_2, kC_3, kC_4, kC_5, kC_6, kC_7, kC_8, kC_9, kC_10, kC_11, kC_12, kC_13, kC_14, kC_15, kC_16, kC_17, kC_18, kC_19, kC_20, kC_21, kC_22, kC_23, kC_24, kC_25, kC_26, kC_27, kC_28, kC_29, kC_30, kC_31, kC_32, kC_145, kC_146, kC_147, kC_148, kC_149, kC_150, kC_151, kC_164, kC_165, kC_166, kC_167, kC_168, kC_169, kC_170, kC_171, kC_172, kC_173, kC_174, kC_175, kC_176, kC_177, kC_178, kC_179, kC_180, kC_181, kC_182, kC_183, kC_184, pC_1_0, pC_1_2, pC_1_3, pC_1_4, pC_1_5, pC_1_6, pC_1_7, pC_1_8, pC_1_9, pC_1_10, pC_1_11, pC_3_5, pC_5_0, pC_5_1, pC_5_2, pC_5_6, pC_5_7, pC_5_8, pC_5_9, pC_5_10, pC_13_0, pC_13_1, pC_13_2, pC_13_6, pC_13_7, pC_13_8, pC_13_9, pC_13_10, pC_21_0, pC_21_1, pC_21_2, pC_21_6, pC_21_7, pC_21_8, pC_21_9, pC_21_10, pC_29_0, pC_29_1, pC_29_2, pC_145_0, pC_145_1, pC_145_2, pC_145_3, pC_145_4, pC_149_0, pC_149_1, pC_149_2, pC_164_1, pC_164_2, pC_164_3, pC_168_0, pC_168_3, pC_168_4, pC_168_5, pC_172_0, pC_175_0, pC_175_2, pC_175_3, pC_175_5, pC_180_0, pC_180_2, pC_180_3, pC_180_5, e5, (EqW_o e6), (EqW_o e7), e8, hn, g', hcn, e10, (EqW_o e12), g3, b0, b1, b2, b3, b4, b5, (EqW_o en)]
        exact ih _ (hno (fun q => by rw [hn] at q; exact g3 (by simpa using q.2.2)))
theorem c_follow {g : Nat} (hg : g < 6) (hG : GrC M r c z) (hH : Hd z h) (hC : CoC M h z) (hD : IsD c z h t NV (M 151)) (hs : s < z) (hp : hasP c z h s t) (h1 : M (152 + 2 * g) 1 = 0) (h2 : M (152 + 2 * g) 2 = 0) : Cw 2 61 [pR 149, pI (s : Int), pI (t : Int), pR (152 + 2 * g)] LC (PC b) M (fun x P' M' => x = none ∧ P' = PC b ∧ same M' M [152 + 2 * g, 153 + 2 * g] ∧ M' (152 + 2 * g) 0 = M (152 + 2 * g) 0 ∧ M' (152 + 2 * g) 1 = (pN c z h s t : Int) ∧ M' (152 + 2 * g) 2 = ((bs (onW c z h s t) z : Nat) : Int) ∧ ∀ k, k < pN c z h s t → M' (153 + 2 * g) k = (pW c z h s t k : Int)) := by
  refine Cw_q [some (pR 149), some (pI (s : Int)), some (pI (t : Int)), some (pR (152 + 2 * g)), none, none] (Nat.le_of_ble_eq_true rfl) rfl (fun d hd => ?_)
  have hz := GrC_z hG
  have hL := GrC_L hG
  have hsz := GrC_s hG
  have hDD := dD_is (t := t) hL hH
  obtain ⟨m, p1, p2, p3, p4, p5, p6, p7⟩ := pP hL hH hs hp
  have heq : ∀ f, f < z → M 151 f = dD c z h t f := by
    intro f hf
    have hNV : (221795 : Int) < NV := by decide
    have hu := IsD_un hL hH hD hDD hNV hNV hf
    by_cases q : M 151 f < NV
    · exact hu.2 q
    · have q2 : ¬ dD c z h t f < NV := fun q2 => q (hu.1.mpr q2)
      have := (hD.1.2.1 f hf).2
      have := (hDD.1.2.1 f hf).2
      omega
  have hB : ∀ f, f < z → 0 ≤ M 151 f ∧ M 151 f ≤ NV := hD.1.2.1
  simp only [s_61_0, s_61_1, s_61_3, s_61_4, s_61_9, s_61_10, s_61_14, s_61_15, s_61_18, s_61_21, s_61_24, s_61_26, s_61_27, s_61_30, s_61_31, s_61_36, s_61_38, s_61_39, s_61_44, s_61_47, s_61_50, true_and, and_true, sc0, sc1, sc2, sc3, sc4, Option.toList, List.cons_append, List.nil_append, clr, ne_eq, not_false_eq_true, not_true_eq_false, false_and, and_false, true_or, or_true, or_false, false_or, forall_const, Nat.reduceEqDiff, List.length_nil, List.length_cons, Nat.zero_le, Nat.reduceAdd, Nat.reduceLeDiff, false_implies, true_implies, Int.reduceEq, Int.reduceNe, Int.reduceLT, Int.reduceLE, Int.reduceNeg, Int.reduceToNat, Int.toNat_natCast, Nat.reduceLT, and_self, Decidable.not_not, kC_0, kC_1, kC_2, kC_3, kC_4, kC_5, kC_6, kC_7, kC_8, kC_9, kC_10, kC_11, kC_12, kC_13, kC_14, kC_15, kC_16, kC_17, kC_18, kC_19, kC_20, kC_21, kC_22, kC_23, kC_24, kC_25, kC_26, kC_27, kC_28, kC_29, kC_30, kC_31, kC_32, kC_145, kC_146, kC_147, kC_148, kC_149, kC_150, kC_151, kC_164, kC_165, kC_166, kC_167, kC_168, kC_169, kC_170, kC_171, kC_172, kC_173, kC_174, kC_175, kC_176, kC_177, kC_178, kC_179, kC_180, kC_181, kC_182, kC_183, kC_184, pC_1_0, pC_1_2, pC_1_3, pC_1_4, pC_1_5, pC_1_6, pC_1_7, pC_1_8, pC_1_9, pC_1_10, pC_1_11, pC_3_5, pC_5_0, pC_5_1, pC_5_2, pC_5_6, pC_5_7, pC_5_8, pC_5_9, pC_5_10, pC_13_0, pC_13_1, pC_13_2, pC_13_6, pC_13_7, pC_13_8, pC_13_9, pC_13_10, pC_21_0, pC_21_1, pC_21_2, pC_21_6, pC_21_7, pC_21_8, pC_21_9, pC_21_10, pC_29_0, pC_29_1, pC_29_2, pC_145_0, pC_145_1, pC_145_2, pC_145_3, pC_145_4, pC_149_0, pC_149_1, pC_149_2, pC_164_1, pC_164_2, pC_164_3, pC_168_0, pC_168_3, pC_168_4, pC_168_5, pC_172_0, pC_175_0, pC_175_2, pC_175_3, pC_175_5, pC_180_0, pC_180_2, pC_180_3, pC_180_5]
  refine s_61_6 (Nat.le_of_ble_eq_true rfl) (pa_k hg) (c_Padd (n := 0) hg (by rw [h1]; rfl) (by omega) d (by omega)) ?_
  have ne1 : 152 + 2 * g ≠ 153 + 2 * g := by omega
  simp only [s_61_0, s_61_1, s_61_3, s_61_4, s_61_9, s_61_10, s_61_14, s_61_15, s_61_18, s_61_21, s_61_24, s_61_26, s_61_27, s_61_30, s_61_31, s_61_36, s_61_38, s_61_39, s_61_44, s_61_47, s_61_50, true_and, and_true, sc0, sc1, sc2, sc3, sc4, Option.toList, List.cons_append, List.nil_append, clr, ne_eq, not_false_eq_true, not_true_eq_false, false_and, and_false, true_or, or_true, or_false, false_or, forall_const, Nat.reduceEqDiff, List.length_nil, List.length_cons, Nat.zero_le, Nat.reduceAdd, Nat.reduceLeDiff, false_implies, true_implies, Int.reduceEq, Int.reduceNe, Int.reduceLT, Int.reduceLE, Int.reduceNeg, Int.reduceToNat, Int.toNat_natCast, Nat.reduceLT, and_self, Decidable.not_not, kC_0, kC_1, kC_2, kC_3, kC_4, kC_5, kC_6, kC_7, kC_8, kC_9, kC_10, kC_11, kC_12, kC_13, kC_14, kC_15, kC_16, kC_17, kC_18, kC_19, kC_20, kC_21, kC_22, kC_23, kC_24, kC_25, kC_26, kC_27, kC_28, kC_29, kC_30, kC_31, kC_32, kC_145, kC_146, kC_147, kC_148, kC_149, kC_150, kC_151, kC_164, kC_165, kC_166, kC_167, kC_168, kC_169, kC_170, kC_171, kC_172, kC_173, kC_174, kC_175, kC_176, kC_177, kC_178, kC_179, kC_180, kC_181, kC_182, kC_183, kC_184, pC_1_0, pC_1_2, pC_1_3, pC_1_4, pC_1_5, pC_1_6, pC_1_7, pC_1_8, pC_1_9, pC_1_10, pC_1_11, pC_3_5, pC_5_0, pC_5_1, pC_5_2, pC_5_6, pC_5_7, pC_5_8, pC_5_9, pC_5_10, pC_13_0, pC_13_1, pC_13_2, pC_13_6, pC_13_7, pC_13_8, pC_13_9, pC_13_10, pC_21_0, pC_21_1, pC_21_2, pC_21_6, pC_21_7, pC_21_8, pC_21_9, pC_21_10, pC_29_0, pC_29_1, pC_29_2, pC_145_0, pC_145_1, pC_145_2, pC_145_3, pC_145_4, pC_149_0, pC_149_1, pC_149_2, pC_164_1, pC_164_2, pC_164_3, pC_168_0, pC_168_3, pC_168_4, pC_168_5, pC_172_0, pC_175_0, pC_175_2, pC_175_3, pC_175_5, pC_180_0, pC_180_2, pC_180_3, pC_180_5]
  let I : Nat → MM → Prop := fun i N => i ≤ m ∧ same N M [152 + 2 * g, 153 + 2 * g] ∧ N (152 + 2 * g) 0 = M (152 + 2 * g) 0 ∧ N (152 + 2 * g) 1 = ((i + 1 : Nat) : Int) ∧ (∀ k, k ≤ i → N (153 + 2 * g) k = (pW c z h s t k : Int)) ∧ ∃ e : Nat, N (152 + 2 * g) 2 = (e : Int) ∧ e < 2 ^ 36 ∧ ∀ f, e.testBit f = decide (∃ k, k < i + 1 ∧ pW c z h s t k = f)
  have start : I 0 (uM (uM (uM M (153 + 2 * g) 0 (s : Int)) (152 + 2 * g) 1 ((0 + 1 : Nat) : Int)) (152 + 2 * g) 2 (lOr (M (152 + 2 * g) 2) (lShl 1 (s : Int)))) := by
    refine ⟨Nat.zero_le _, same_u (same_u (same_u (fun _ _ => rfl) (by simp)) (by simp)) (by simp), ?_, ?_, fun k hk => ?_, 2 ^ s, ?_, Nat.pow_lt_pow_right (by decide) (by omega), fun f => ?_⟩
    · simp [uM_at]
    · simp [uM_at]
    · obtain rfl : k = 0 := by omega
      rw [p3]; simp [uM_at]
    · have : lOr (M (152 + 2 * g) 2) (lShl 1 (s : Int)) = ((2 ^ s : Nat) : Int) := by
        rw [h2, one_shl (by omega), show (0 : Int) = ((0 : Nat) : Int) from rfl, lOr_n (by decide) (Nat.pow_lt_pow_right (by decide) (by omega)), Nat.zero_or]
      rw [uM_at, if_pos rfl, if_pos rfl, this]
    · rw [Nat.testBit_two_pow, decide_eq_decide]
      constructor
      · intro e; subst e; exact ⟨0, by omega, p3⟩
      · rintro ⟨k, hk, e⟩
        obtain rfl : k = 0 := by omega
        rw [p3] at e; exact e
  have fin : ∀ N, I m N → same N M [152 + 2 * g, 153 + 2 * g] ∧ N (152 + 2 * g) 0 = M (152 + 2 * g) 0 ∧ N (152 + 2 * g) 1 = (pN c z h s t : Int) ∧ N (152 + 2 * g) 2 = ((bs (onW c z h s t) z : Nat) : Int) ∧ ∀ k, k < pN c z h s t → N (153 + 2 * g) k = (pW c z h s t k : Int) := by
    intro N hN
    obtain ⟨_, a1, a2, a3, a4, e, a5, a6, a7⟩ := hN
    refine ⟨a1, a2, by rw [a3, p1], ?_, fun k hk => a4 k (by omega)⟩
    have : e = bs (onW c z h s t) z := by
      apply Nat.eq_of_testBit_eq
      intro f
      rw [a7, bs_bit]
      unfold onW
      rw [p1]
      by_cases g1 : f < z
      · simp [g1]
      · have : ¬ ∃ k, k < m + 1 ∧ pW c z h s t k = f := by
          rintro ⟨k, hk, e⟩
          have := (p5 k (by omega)).1
          omega
        simp [g1, this]
    rw [a5, this]
  refine lup (α := MM) (I := I) (G := fun i N => wpB (Ev d) 61 _ _ 12 [some (pR 149), some (pI (s : Int)), some (pI (t : Int)), some (pR (152 + 2 * g)), some (pI (pW c z h s t i : Int)), some (pI (i : Int))] [] (kz LC) (PC b) N) m (fun N hN => ?_) (fun i N hi hN ih => ?_) 0 _ (Nat.zero_le _) start
  · have e1 : N 3 2 = (z : Int) := by rw [hN.2.1 3 (by simp; omega)]; exact hsz
    have e0 : ¬ (z : Int) ≤ (m : Int) := by omega
    rw [s_61_12, p4]
    simp only [s_61_0, s_61_1, s_61_3, s_61_4, s_61_9, s_61_10, s_61_14, s_61_15, s_61_18, s_61_21, s_61_24, s_61_26, s_61_27, s_61_30, s_61_31, s_61_36, s_61_38, s_61_39, s_61_44, s_61_47, s_61_50, true_and, and_true, sc0, sc1, sc2, sc3, sc4, Option.toList, List.cons_append, List.nil_append, clr, ne_eq, not_false_eq_true, not_true_eq_false, false_and, and_false, true_or, or_true, or_false, false_or, forall_const, Nat.reduceEqDiff, List.length_nil, List.length_cons, Nat.zero_le, Nat.reduceAdd, Nat.reduceLeDiff, false_implies, true_implies, Int.reduceEq, Int.reduceNe, Int.reduceLT, Int.reduceLE, Int.reduceNeg, Int.reduceToNat, Int.toNat_natCast, Nat.reduceLT, and_self, Decidable.not_not, kC_0, kC_1, kC_2, kC_3, kC_4, kC_5, kC_6, kC_7, kC_8, kC_9, kC_10, kC_11, kC_12, kC_13, kC_14, kC_15, kC_16, kC_17, kC_18, kC_19, kC_20, kC_21, kC_22, kC_23, kC_24, kC_25, kC_26, kC_27, kC_28, kC_29, kC_30, kC_31, kC_32, kC_145, kC_146, kC_147, kC_148, kC_149, kC_150, kC_151, kC_164, kC_165, kC_166, kC_167, kC_168, kC_169, kC_170, kC_171, kC_172, kC_173, kC_174, kC_175, kC_176, kC_177, kC_178, kC_179, kC_180, kC_181, kC_182, kC_183, kC_184, pC_1_0, pC_1_2, pC_1_3, pC_1_4, pC_1_5, pC_1_6, pC_1_7, pC_1_8, pC_1_9, pC_1_10, pC_1_11, pC_3_5, pC_5_0, pC_5_1, pC_5_2, pC_5_6, pC_5_7, pC_5_8, pC_5_9, pC_5_10, pC_13_0, pC_13_1, pC_13_2, pC_13_6, pC_13_7, pC_13_8, pC_13_9, pC_13_10, pC_21_0, pC_21_1, pC_21_2, pC_21_6, pC_21_7, pC_21_8, pC_21_9, pC_21_10, pC_29_0, pC_29_1, pC_29_2, pC_145_0, pC_145_1, pC_145_2, pC_145_3, pC_145_4, pC_149_0, pC_149_1, pC_149_2, pC_164_1, pC_164_2, pC_164_3, pC_168_0, pC_168_3, pC_168_4, pC_168_5, pC_172_0, pC_175_0, pC_175_2, pC_175_3, pC_175_5, pC_180_0, pC_180_2, pC_180_3, pC_180_5, e1, e0]
    exact fin N hN
  · obtain ⟨_, a1, a2, a3, a4, e, a5, a6, a7⟩ := hN
    have e1 : N 3 2 = (z : Int) := by rw [a1 3 (by simp; omega)]; exact hsz
    have e0 : ¬ (z : Int) ≤ (i : Int) := by omega
    have en := EqW_i (w32n (show i < 1000000 by omega))
    have hk := p5 i (by omega)
    have ne : ¬ (pW c z h s t i : Int) = (t : Int) := by
      have := hk.2.2 hi
      omega
    have hG2 : GrC N r c z := GrC_cg hG (a1 3 (by simp; omega)) (a1 4 (by simp; omega))
    have hC2 : CoC N h z := fun f hf => by rw [a1 150 (by simp; omega)]; exact hC f hf
    have e151 : N 151 = M 151 := a1 151 (by simp; omega)
    have hnx : nxt c z h (N 151) (pW c z h s t i) = pW c z h s t (i + 1) := by
      rw [p6 i hi, e151]
      exact nxt_cg hL hk.1 heq
    have hn := c_nextOf (b := b) (M := N) hG2 hH hC2 (by rw [e151]; exact hB) hk.1
    rw [hnx] at hn
    have hkz := (p5 (i + 1) (by omega)).1
    rw [s_61_12]
    simp only [s_61_0, s_61_1, s_61_3, s_61_4, s_61_9, s_61_10, s_61_14, s_61_15, s_61_18, s_61_21, s_61_24, s_61_26, s_61_27, s_61_30, s_61_31, s_61_36, s_61_38, s_61_39, s_61_44, s_61_47, s_61_50, true_and, and_true, sc0, sc1, sc2, sc3, sc4, Option.toList, List.cons_append, List.nil_append, clr, ne_eq, not_false_eq_true, not_true_eq_false, false_and, and_false, true_or, or_true, or_false, false_or, forall_const, Nat.reduceEqDiff, List.length_nil, List.length_cons, Nat.zero_le, Nat.reduceAdd, Nat.reduceLeDiff, false_implies, true_implies, Int.reduceEq, Int.reduceNe, Int.reduceLT, Int.reduceLE, Int.reduceNeg, Int.reduceToNat, Int.toNat_natCast, Nat.reduceLT, and_self, Decidable.not_not, kC_0, kC_1, kC_2, kC_3, kC_4, kC_5, kC_6, kC_7, kC_8, kC_9, kC_10, kC_11, kC_12, kC_13, kC_14, kC_15, kC_16, kC_17, kC_18, kC_19, kC_20, kC_21, kC_22, kC_23, kC_24, kC_25, kC_26, kC_27, kC_28, kC_29, kC_30, kC_31, kC_32, kC_145, kC_146, kC_147, kC_148, kC_149, kC_150, kC_151, kC_164, kC_165, kC_166, kC_167, kC_168, kC_169, kC_170, kC_171, kC_172, kC_173, kC_174, kC_175, kC_176, kC_177, kC_178, kC_179, kC_180, kC_181, kC_182, kC_183, kC_184, pC_1_0, pC_1_2, pC_1_3, pC_1_4, pC_1_5, pC_1_6, pC_1_7, pC_1_8, pC_1_9, pC_1_10, pC_1_11, pC_3_5, pC_5_0, pC_5_1, pC_5_2, pC_5_6, pC_5_7, pC_5_8, pC_5_9, pC_5_10, pC_13_0, pC_13_1, pC_13_2, pC_13_6, pC_13_7, pC_13_8, pC_13_9, pC_13_10, pC_21_0, pC_21_1, pC_21_2, pC_21_6, pC_21_7, pC_21_8, pC_21_9, pC_21_10, pC_29_0, pC_29_1, pC_29_2, pC_145_0, pC_145_1, pC_145_2, pC_145_3, pC_145_4, pC_149_0, pC_149_1, pC_149_2, pC_164_1, pC_164_2, pC_164_3, pC_168_0, pC_168_3, pC_168_4, pC_168_5, pC_172_0, pC_175_0, pC_175_2, pC_175_3, pC_175_5, pC_180_0, pC_180_2, pC_180_3, pC_180_5, e1, e0, ne]
    refine s_61_33 (Nat.le_of_ble_eq_true rfl) kC_149 (hn d (by omega)) ?_
    simp only [s_61_0, s_61_1, s_61_3, s_61_4, s_61_9, s_61_10, s_61_14, s_61_15, s_61_18, s_61_21, s_61_24, s_61_26, s_61_27, s_61_30, s_61_31, s_61_36, s_61_38, s_61_39, s_61_44, s_61_47, s_61_50, true_and, and_true, sc0, sc1, sc2, sc3, sc4, Option.toList, List.cons_append, List.nil_append, clr, ne_eq, not_false_eq_true, not_true_eq_false, false_and, and_false, true_or, or_true, or_false, false_or, forall_const, Nat.reduceEqDiff, List.length_nil, List.length_cons, Nat.zero_le, Nat.reduceAdd, Nat.reduceLeDiff, false_implies, true_implies, Int.reduceEq, Int.reduceNe, Int.reduceLT, Int.reduceLE, Int.reduceNeg, Int.reduceToNat, Int.toNat_natCast, Nat.reduceLT, and_self, Decidable.not_not, kC_0, kC_1, kC_2, kC_3, kC_4, kC_5, kC_6, kC_7, kC_8, kC_9, kC_10, kC_11, kC_12, kC_13, kC_14, kC_15, kC_16, kC_17, kC_18, kC_19, kC_20, kC_21, kC_22, kC_23, kC_24, kC_25, kC_26, kC_27, kC_28, kC_29, kC_30, kC_31, kC_32, kC_145, kC_146, kC_147, kC_148, kC_149, kC_150, kC_151, kC_164, kC_165, kC_166, kC_167, kC_168, kC_169, kC_170, kC_171, kC_172, kC_173, kC_174, kC_175, kC_176, kC_177, kC_178, kC_179, kC_180, kC_181, kC_182, kC_183, kC_184, pC_1_0, pC_1_2, pC_1_3, pC_1_4, pC_1_5, pC_1_6, pC_1_7, pC_1_8, pC_1_9, pC_1_10, pC_1_11, pC_3_5, pC_5_0, pC_5_1, pC_5_2, pC_5_6, pC_5_7, pC_5_8, pC_5_9, pC_5_10, pC_13_0, pC_13_1, pC_13_2, pC_13_6, pC_13_7, pC_13_8, pC_13_9, pC_13_10, pC_21_0, pC_21_1, pC_21_2, pC_21_6, pC_21_7, pC_21_8, pC_21_9, pC_21_10, pC_29_0, pC_29_1, pC_29_2, pC_145_0, pC_145_1, pC_145_2, pC_145_3, pC_145_4, pC_149_0, pC_149_1, pC_149_2, pC_164_1, pC_164_2, pC_164_3, pC_168_0, pC_168_3, pC_168_4, pC_168_5, pC_172_0, pC_175_0, pC_175_2, pC_175_3, pC_175_5, pC_180_0, pC_180_2, pC_180_3, pC_180_5]
    refine s_61_41 (Nat.le_of_ble_eq_true rfl) (pa_k hg) (c_Padd (n := i + 1) hg a3 (by omega) d (by omega)) ?_
    simp only [s_61_0, s_61_1, s_61_3, s_61_4, s_61_9, s_61_10, s_61_14, s_61_15, s_61_18, s_61_21, s_61_24, s_61_26, s_61_27, s_61_30, s_61_31, s_61_36, s_61_38, s_61_39, s_61_44, s_61_47, s_61_50, true_and, and_true, sc0, sc1, sc2, sc3, sc4, Option.toList, List.cons_append, List.nil_append, clr, ne_eq, not_false_eq_true, not_true_eq_false, false_and, and_false, true_or, or_true, or_false, false_or, forall_const, Nat.reduceEqDiff, List.length_nil, List.length_cons, Nat.zero_le, Nat.reduceAdd, Nat.reduceLeDiff, false_implies, true_implies, Int.reduceEq, Int.reduceNe, Int.reduceLT, Int.reduceLE, Int.reduceNeg, Int.reduceToNat, Int.toNat_natCast, Nat.reduceLT, and_self, Decidable.not_not, kC_0, kC_1, kC_2, kC_3, kC_4, kC_5, kC_6, kC_7, kC_8, kC_9, kC_10, kC_11, kC_12, kC_13, kC_14, kC_15, kC_16, kC_17, kC_18, kC_19, kC_20, kC_21, kC_22, kC_23, kC_24, kC_25, kC_26, kC_27, kC_28, kC_29, kC_30, kC_31, kC_32, kC_145, kC_146, kC_147, kC_148, kC_149, kC_150, kC_151, kC_164, kC_165, kC_166, kC_167, kC_168, kC_169, kC_170, kC_171, kC_172, kC_173, kC_174, kC_175, kC_176, kC_177, kC_178, kC_179, kC_180, kC_181, kC_182, kC_183, kC_184, pC_1_0, pC_1_2, pC_1_3, pC_1_4, pC_1_5, pC_1_6, pC_1_7, pC_1_8, pC_1_9, pC_1_10, pC_1_11, pC_3_5, pC_5_0, pC_5_1, pC_5_2, pC_5_6, pC_5_7, pC_5_8, pC_5_9, pC_5_10, pC_13_0, pC_13_1, pC_13_2, pC_13_6, pC_13_7, pC_13_8, pC_13_9, pC_13_10, pC_21_0, pC_21_1, pC_21_2, pC_21_6, pC_21_7, pC_21_8, pC_21_9, pC_21_10, pC_29_0, pC_29_1, pC_29_2, pC_145_0, pC_145_1, pC_145_2, pC_145_3, pC_145_4, pC_149_0, pC_149_1, pC_149_2, pC_164_1, pC_164_2, pC_164_3, pC_168_0, pC_168_3, pC_168_4, pC_168_5, pC_172_0, pC_175_0, pC_175_2, pC_175_3, pC_175_5, pC_180_0, pC_180_2, pC_180_3, pC_180_5, (EqW_o en)]
    have q2 : EqW (lOr (N (152 + 2 * g) 2) (lShl 1 (pW c z h s t (i + 1) : Int))) (((e ||| 2 ^ (pW c z h s t (i + 1)) : Nat) : Int)) := EqW_i <| by
      rw [a5, one_shl (by omega), lOr_n (by omega) (Nat.pow_lt_pow_right (by decide) (by omega))]
    refine ih _ ⟨by omega, same_u (same_u (same_u a1 (by simp)) (by simp)) (by simp), ?_, ?_, fun k hk2 => ?_, e ||| 2 ^ (pW c z h s t (i + 1)), ?_, Nat.or_lt_two_pow a6 (Nat.pow_lt_pow_right (by decide) (by omega)), fun f => ?_⟩
    · simp [uM_at, a2]
    · simp [uM_at]
    · by_cases g1 : k = i + 1
      · subst g1; simp [uM_at, ne1.symm]
      · have := a4 k (by omega)
        simp [uM_at, ne1.symm, g1, this]
    · rw [uM_at, if_pos rfl, if_pos rfl, (EqW_o q2)]
    · rw [Nat.testBit_or, a7, Nat.testBit_two_pow, ← Bool.decide_or, decide_eq_decide]
      constructor
      · rintro (⟨k, hk, q⟩ | q)
        · exact ⟨k, by omega, q⟩
        · exact ⟨i + 1, by omega, q⟩
      · rintro ⟨k, hk, q⟩
        by_cases g1 : k = i + 1
        · subst g1; exact Or.inr q
        · exact Or.inl ⟨k, by omega, q⟩
end
/-- what a GOER meets on a FIELD -/
def envA (A : Nat → Int) (i f : Nat) (lk : Int) (j : Nat) : Int := if j = 0 then A f else if j = 1 then bAnd (bShr (A (114 + i)) (A f)) 1 else if j = 2 then lk else if j = 3 then A (36 + f) else if j = 4 then (A 132).tmod 7 else (i : Int)
def hF (V : (Nat → Int) → Int) (A : Nat → Int) (i : Nat) : Nat → Int := fun f => if f < 36 then cl99 (V (envA A i f (A (72 + f)))) else 0
theorem hF_at {V : (Nat → Int) → Int} {A : Nat → Int} {i f : Nat} (hf : f < 36) : hF V A i f = cl99 (V (envA A i f (A (72 + f)))) := if_pos hf
theorem hF_H {V : (Nat → Int) → Int} {A : Nat → Int} {i z : Nat} : Hd z (hF V A i) := fun f _ => by
  unfold hF
  split
  · exact cl99_r _
  · omega
theorem hF_cg {V : (Nat → Int) → Int} {A A' : Nat → Int} {i : Nat} (hA : ∀ j, (j < 120 ∨ j = 132) → A' j = A j) (hi : i < 6) : hF V A' i = hF V A i := by
  funext f
  unfold hF
  by_cases hf : f < 36
  · rw [if_pos hf, if_pos hf]
    have : envA A' i f (A' (72 + f)) = envA A i f (A (72 + f)) := by
      funext j
      unfold envA
      rw [hA f (by omega), hA (114 + i) (by omega), hA (36 + f) (by omega), hA 132 (by omega), hA (72 + f) (by omega)]
    rw [this]
  · rw [if_neg hf, if_neg hf]
/-- the State at o is the snapshot A (with starts B), z fields, n goers -/
def SnC (M : MM) (o : Nat) (A B : Nat → Int) (z n : Nat) : Prop := (∀ f, f < z → M (o + 1) f = A f ∧ M (o + 2) f = A (36 + f)) ∧ M o 3 = ((bs (fun f => decide (A (72 + f) = 1)) z : Nat) : Int) ∧ M o 4 = A 132 ∧ M o 5 = (n : Int) ∧ ∀ g, g < n → M (o + 3) g = B g ∧ M (o + 4) g = A (108 + g) ∧ M (o + 5) g = A (114 + g) ∧ M (o + 6) g = A (120 + g) ∧ M (o + 7) g = A (126 + g)
/-- what holds of every snapshot -/
def SnV (A B : Nat → Int) (z n : Nat) : Prop := n ≤ 6 ∧ (∀ f, f < z → (0 ≤ A f ∧ A f ≤ 3) ∧ (0 ≤ A (36 + f) ∧ A (36 + f) ≤ 99) ∧ (A (72 + f) = 0 ∨ A (72 + f) = 1)) ∧ (∀ g, g < n → (0 ≤ B g ∧ B g < (z : Int)) ∧ (0 ≤ A (108 + g) ∧ A (108 + g) < (z : Int)) ∧ (0 ≤ A (114 + g) ∧ A (114 + g) ≤ 15) ∧ (0 ≤ A (120 + g) ∧ A (120 + g) ≤ 999) ∧ (0 ≤ A (126 + g) ∧ A (126 + g) ≤ 999)) ∧ r32 (A 132)
/-- at most eight are locked -/
def LkV (A : Nat → Int) (z : Nat) : Prop := cnt (fun f => decide (A (72 + f) = 1)) z ≤ 8
theorem lk_bit {A : Nat → Int} {z f : Nat} (hz : z ≤ 36) (hf : f < z) (hA : A (72 + f) = 0 ∨ A (72 + f) = 1) : (if lAnd (lUshr ((bs (fun f => decide (A (72 + f) = 1)) z : Nat) : Int) (f : Int)) 1 = 0 then (0 : Int) else 1) = A (72 + f) := by
  have hlt : bs (fun f => decide (A (72 + f) = 1)) z < 2 ^ 63 := Nat.lt_trans (bs_le (by omega)) (by decide)
  rw [bit_n hlt (by omega), bs_bit]
  rcases hA with e | e <;> simp [e, hf]
theorem env_CA {M : MM} {o : Nat} {A B : Nat → Int} {z n g f : Nat} {lk : Int} (hS : SnC M o A B z n) (hV : SnV A B z n) (hf : f < z) (hg : g < n) : envC M o g f lk = envA A g f lk := by
  funext j
  have h1 := hS.1 f hf
  have h2 := hS.2.2.2.2 g hg
  have v1 := (hV.2.1 f hf).1
  have v2 := (hV.2.2.1 g hg).2.2.1
  unfold envC envA
  rw [h1.1, h1.2, h2.2.2.1, hS.2.2.1]
  have e : EqW (bUshr (A (114 + g)) (A f)) (bShr (A (114 + g)) (A f)) := EqW_i <| by
    obtain ⟨a, ha⟩ : ∃ a : Nat, A (114 + g) = (a : Int) := ⟨(A (114 + g)).toNat, by omega⟩
    obtain ⟨k, hk⟩ : ∃ a : Nat, A f = (a : Int) := ⟨(A f).toNat, by omega⟩
    rw [ha, hk, bUshr_n (by omega) (by omega), bShr_n (by omega) (by omega)]
  rw [(EqW_o e)]
theorem SnC_same {M M' : MM} {o : Nat} {A B : Nat → Int} {z n : Nat} (hS : SnC M o A B z n) (h : ∀ p, o ≤ p → p < o + 8 → M' p = M p) : SnC M' o A B z n := by
  unfold SnC at hS ⊢
  rw [h o (by omega) (by omega), h (o + 1) (by omega) (by omega), h (o + 2) (by omega) (by omega), h (o + 3) (by omega) (by omega), h (o + 4) (by omega) (by omega), h (o + 5) (by omega) (by omega), h (o + 6) (by omega) (by omega), h (o + 7) (by omega) (by omega)]
  exact hS
theorem RuV_same {M M' : MM} {q : Nat} {V : (Nat → Int) → Int} (hR : RuV M q V) (h0 : M' q = M q) (h1 : M' (q + 1) = M (q + 1)) : RuV M' q V := by
  unfold RuV at hR ⊢
  rw [h0, h1]; exact hR
section
variable {M : MM} {b : Bool} {r c z n o q : Nat} {A B : Nat → Int} {V : (Nat → Int) → Int}
theorem c_seek {g : Nat} (hq : ruQ q) (ho : stI o) (hg : g < n) (hG : GrC M r c z) (hS : SnC M o A B z n) (hV : SnV A B z n) (hR : RuV M q V) : Cw 3 57 [pR 149, pR o, pR q, pI (g : Int), pR (152 + 2 * g)] LC (PC b) M (fun x P' M' => x = none ∧ P' = PC b ∧ same M' M [q + 2, 150, 151, 152 + 2 * g, 153 + 2 * g] ∧ PaC M' g c z (hF V A g) (B g).toNat (A (108 + g)).toNat) := by
  refine Cw_q [some (pR 149), some (pR o), some (pR q), some (pI (g : Int)), some (pR (152 + 2 * g)), none, none, none, none] (Nat.le_of_ble_eq_true rfl) rfl (fun d hd => ?_)
  have hz := GrC_z hG
  have hL := GrC_L hG
  have hsz := GrC_s hG
  have hn6 := hV.1
  have hg6 : g < 6 := by omega
  have hob := st_b ho
  have hq175 : 175 ≤ q := by rcases hq with rfl | rfl <;> decide
  have hH : Hd z (hF V A g) := hF_H
  obtain ⟨vs, vt, vr, _, _⟩ := hV.2.2.1 g hg
  obtain ⟨s, hs⟩ : ∃ s : Nat, B g = (s : Int) := ⟨(B g).toNat, by omega⟩
  obtain ⟨t, ht⟩ : ∃ s : Nat, A (108 + g) = (s : Int) := ⟨(A (108 + g)).toNat, by omega⟩
  have hsz' : s < z := by omega
  have htz' : t < z := by omega
  rw [hs, ht, Int.toNat_natCast, Int.toNat_natCast]
  have bg0 : (0 : Int) ≤ (g : Int) := by omega
  have bg1 : (g : Int) < ((6 : Nat) : Int) := by omega
  simp only [s_57_0, s_57_5, s_57_6, s_57_9, s_57_10, s_57_11, s_57_13, s_57_14, s_57_17, s_57_18, s_57_19, s_57_21, s_57_22, s_57_26, s_57_27, s_57_30, s_57_33, s_57_36, s_57_37, s_57_38, s_57_39, s_57_41, s_57_42, s_57_50, s_57_52, s_57_53, s_57_56, s_57_58, s_57_60, s_57_63, s_57_65, s_57_67, s_57_68, s_57_69, s_57_70, s_57_73, s_57_74, s_57_75, s_57_78, s_57_81, s_57_82, s_57_85, s_57_87, s_57_88, s_57_91, s_57_92, s_57_95, s_57_97, s_57_98, s_57_101, s_57_102, s_57_103, s_57_108, s_57_109, s_57_112, s_57_114, s_57_115, s_57_117, s_57_120, s_57_122, s_57_123, s_57_126, s_57_128, s_57_129, s_57_131, s_57_132, s_57_135, s_57_136, s_57_138, s_57_140, s_57_145, true_and, and_true, sc0, sc1, sc2, sc3, sc4, Option.toList, List.cons_append, List.nil_append, clr, ne_eq, not_false_eq_true, not_true_eq_false, false_and, and_false, true_or, or_true, or_false, false_or, forall_const, Nat.reduceEqDiff, List.length_nil, List.length_cons, Nat.zero_le, Nat.reduceAdd, Nat.reduceLeDiff, false_implies, true_implies, Int.reduceEq, Int.reduceNe, Int.reduceLT, Int.reduceLE, Int.reduceNeg, Int.reduceToNat, Int.toNat_natCast, Nat.reduceLT, and_self, Decidable.not_not, kC_0, kC_1, kC_2, kC_3, kC_4, kC_5, kC_6, kC_7, kC_8, kC_9, kC_10, kC_11, kC_12, kC_13, kC_14, kC_15, kC_16, kC_17, kC_18, kC_19, kC_20, kC_21, kC_22, kC_23, kC_24, kC_25, kC_26, kC_27, kC_28, kC_29, kC_30, kC_31, kC_32, kC_145, kC_146, kC_147, kC_148, kC_149, kC_150, kC_151, kC_164, kC_165, kC_166, kC_167, kC_168, kC_169, kC_170, kC_171, kC_172, kC_173, kC_174, kC_175, kC_176, kC_177, kC_178, kC_179, kC_180, kC_181, kC_182, kC_183, kC_184, pC_1_0, pC_1_2, pC_1_3, pC_1_4, pC_1_5, pC_1_6, pC_1_7, pC_1_8, pC_1_9, pC_1_10, pC_1_11, pC_3_5, pC_5_0, pC_5_1, pC_5_2, pC_5_6, pC_5_7, pC_5_8, pC_5_9, pC_5_10, pC_13_0, pC_13_1, pC_13_2, pC_13_6, pC_13_7, pC_13_8, pC_13_9, pC_13_10, pC_21_0, pC_21_1, pC_21_2, pC_21_6, pC_21_7, pC_21_8, pC_21_9, pC_21_10, pC_29_0, pC_29_1, pC_29_2, pC_145_0, pC_145_1, pC_145_2, pC_145_3, pC_145_4, pC_149_0, pC_149_1, pC_149_2, pC_164_1, pC_164_2, pC_164_3, pC_168_0, pC_168_3, pC_168_4, pC_168_5, pC_172_0, pC_175_0, pC_175_2, pC_175_3, pC_175_5, pC_180_0, pC_180_2, pC_180_3, pC_180_5]
  refine s_57_2 (Nat.le_of_ble_eq_true rfl) (pa_k hg6) (c_Pclear hg6 d (by omega)) ?_
  let M1 : MM := uM (uM (uM M (152 + 2 * g) 0 0) (152 + 2 * g) 1 0) (152 + 2 * g) 2 0
  have hM1 : same M1 M [q + 2, 150, 151, 152 + 2 * g, 153 + 2 * g] := same_u (same_u (same_u (fun _ _ => rfl) (by simp)) (by simp)) (by simp)
  have e3 : M1 (o + 3) g = (s : Int) := by rw [hM1 (o + 3) (by simp; omega), (hS.2.2.2.2 g hg).1, hs]
  have e4 : M1 (o + 4) g = (t : Int) := by rw [hM1 (o + 4) (by simp; omega), (hS.2.2.2.2 g hg).2.1, ht]
  have hM1' : uM (uM (uM M (152 + 2 * g) 0 0) (152 + 2 * g) 1 0) (152 + 2 * g) 2 0 = M1 := rfl
  simp only [s_57_0, s_57_5, s_57_6, s_57_9, s_57_10, s_57_11, s_57_13, s_57_14, s_57_17, s_57_18, s_57_19, s_57_21, s_57_22, s_57_26, s_57_27, s_57_30, s_57_33, s_57_36, s_57_37, s_57_38, s_57_39, s_57_41, s_57_42, s_57_50, s_57_52, s_57_53, s_57_56, s_57_58, s_57_60, s_57_63, s_57_65, s_57_67, s_57_68, s_57_69, s_57_70, s_57_73, s_57_74, s_57_75, s_57_78, s_57_81, s_57_82, s_57_85, s_57_87, s_57_88, s_57_91, s_57_92, s_57_95, s_57_97, s_57_98, s_57_101, s_57_102, s_57_103, s_57_108, s_57_109, s_57_112, s_57_114, s_57_115, s_57_117, s_57_120, s_57_122, s_57_123, s_57_126, s_57_128, s_57_129, s_57_131, s_57_132, s_57_135, s_57_136, s_57_138, s_57_140, s_57_145, true_and, and_true, sc0, sc1, sc2, sc3, sc4, Option.toList, List.cons_append, List.nil_append, clr, ne_eq, not_false_eq_true, not_true_eq_false, false_and, and_false, true_or, or_true, or_false, false_or, forall_const, Nat.reduceEqDiff, List.length_nil, List.length_cons, Nat.zero_le, Nat.reduceAdd, Nat.reduceLeDiff, false_implies, true_implies, Int.reduceEq, Int.reduceNe, Int.reduceLT, Int.reduceLE, Int.reduceNeg, Int.reduceToNat, Int.toNat_natCast, Nat.reduceLT, and_self, Decidable.not_not, kC_0, kC_1, kC_2, kC_3, kC_4, kC_5, kC_6, kC_7, kC_8, kC_9, kC_10, kC_11, kC_12, kC_13, kC_14, kC_15, kC_16, kC_17, kC_18, kC_19, kC_20, kC_21, kC_22, kC_23, kC_24, kC_25, kC_26, kC_27, kC_28, kC_29, kC_30, kC_31, kC_32, kC_145, kC_146, kC_147, kC_148, kC_149, kC_150, kC_151, kC_164, kC_165, kC_166, kC_167, kC_168, kC_169, kC_170, kC_171, kC_172, kC_173, kC_174, kC_175, kC_176, kC_177, kC_178, kC_179, kC_180, kC_181, kC_182, kC_183, kC_184, pC_1_0, pC_1_2, pC_1_3, pC_1_4, pC_1_5, pC_1_6, pC_1_7, pC_1_8, pC_1_9, pC_1_10, pC_1_11, pC_3_5, pC_5_0, pC_5_1, pC_5_2, pC_5_6, pC_5_7, pC_5_8, pC_5_9, pC_5_10, pC_13_0, pC_13_1, pC_13_2, pC_13_6, pC_13_7, pC_13_8, pC_13_9, pC_13_10, pC_21_0, pC_21_1, pC_21_2, pC_21_6, pC_21_7, pC_21_8, pC_21_9, pC_21_10, pC_29_0, pC_29_1, pC_29_2, pC_145_0, pC_145_1, pC_145_2, pC_145_3, pC_145_4, pC_149_0, pC_149_1, pC_149_2, pC_164_1, pC_164_2, pC_164_3, pC_168_0, pC_168_3, pC_168_4, pC_168_5, pC_172_0, pC_175_0, pC_175_2, pC_175_3, pC_175_5, pC_180_0, pC_180_2, pC_180_3, pC_180_5, hM1', st_k ho, st_k1 ho, st_k2 ho, st_k3 ho, st_k4 ho, st_k5 ho, st_k6 ho, st_k7 ho, st_p0 ho, st_p1 ho, st_p2 ho, st_p6 ho, st_p7 ho, st_p8 ho, st_p9 ho, st_p10 ho, bg0, bg1, e3, e4]
  refine lup (α := MM × Option PV) (I := fun i x => same x.1 M1 [q + 2, 150] ∧ ∀ f, f < i → x.1 150 f = if 0 < hF V A g f then cst (hF V A g) f else 0) (G := fun i x => wpB (Ev d) 57 _ _ 24 [some (pR 149), some (pR o), some (pR q), some (pI (g : Int)), some (pR (152 + 2 * g)), some (pI (s : Int)), some (pI (t : Int)), some (pI (i : Int)), x.2] [] (kz LC) (PC b) x.1) z (fun x hx => ?_) (fun i x hi hx ih => ?_) 0 (M1, none) (Nat.zero_le _) ⟨fun _ _ => rfl, fun f hf => absurd hf (Nat.not_lt_zero _)⟩
  case refine_2 =>
    obtain ⟨N, l8⟩ := x
    obtain ⟨a1, a2⟩ := hx
    dsimp only at a1 a2
    have hNM : same N M [q + 2, 150, 151, 152 + 2 * g, 153 + 2 * g] := fun p hp => by
      rw [a1 p (by simp at hp ⊢; exact ⟨hp.1, hp.2.1⟩), hM1 p hp]
    have e1 : N 3 2 = (z : Int) := by rw [hNM 3 (by simp; omega)]; exact hsz
    have e0 : ¬ (z : Int) ≤ (i : Int) := by omega
    have en := EqW_i (w32n (show i < 1000000 by omega))
    have bi0 : (0 : Int) ≤ (i : Int) := by omega
    have bi1 : (i : Int) < ((36 : Nat) : Int) := by omega
    have hSN : SnC N o A B z n := SnC_same hS (fun p h1 h2 => hNM p (by simp; omega))
    have hRN : RuV N q V := RuV_same hR (hNM q (by simp; omega)) (hNM (q + 1) (by simp; omega))
    have vf := hV.2.1 i hi
    have hlk := c_isLocked (b := b) (M := N) (f := (i : Int)) ho
    rw [hSN.2.1, lk_bit hz.2 hi vf.2.2] at hlk
    rw [s_57_24]
    simp only [s_57_0, s_57_5, s_57_6, s_57_9, s_57_10, s_57_11, s_57_13, s_57_14, s_57_17, s_57_18, s_57_19, s_57_21, s_57_22, s_57_26, s_57_27, s_57_30, s_57_33, s_57_36, s_57_37, s_57_38, s_57_39, s_57_41, s_57_42, s_57_50, s_57_52, s_57_53, s_57_56, s_57_58, s_57_60, s_57_63, s_57_65, s_57_67, s_57_68, s_57_69, s_57_70, s_57_73, s_57_74, s_57_75, s_57_78, s_57_81, s_57_82, s_57_85, s_57_87, s_57_88, s_57_91, s_57_92, s_57_95, s_57_97, s_57_98, s_57_101, s_57_102, s_57_103, s_57_108, s_57_109, s_57_112, s_57_114, s_57_115, s_57_117, s_57_120, s_57_122, s_57_123, s_57_126, s_57_128, s_57_129, s_57_131, s_57_132, s_57_135, s_57_136, s_57_138, s_57_140, s_57_145, true_and, and_true, sc0, sc1, sc2, sc3, sc4, Option.toList, List.cons_append, List.nil_append, clr, ne_eq, not_false_eq_true, not_true_eq_false, false_and, and_false, true_or, or_true, or_false, false_or, forall_const, Nat.reduceEqDiff, List.length_nil, List.length_cons, Nat.zero_le, Nat.reduceAdd, Nat.reduceLeDiff, false_implies, true_implies, Int.reduceEq, Int.reduceNe, Int.reduceLT, Int.reduceLE, Int.reduceNeg, Int.reduceToNat, Int.toNat_natCast, Nat.reduceLT, and_self, Decidable.not_not, kC_0, kC_1, kC_2, kC_3, kC_4, kC_5, kC_6, kC_7, kC_8, kC_9, kC_10, kC_11, kC_12, kC_13, kC_14, kC_15, kC_16, kC_17, kC_18, kC_19, kC_20, kC_21, kC_22, kC_23, kC_24, kC_25, kC_26, kC_27, kC_28, kC_29, kC_30, kC_31, kC_32, kC_145, kC_146, kC_147, kC_148, kC_149, kC_150, kC_151, kC_164, kC_165, kC_166, kC_167, kC_168, kC_169, kC_170, kC_171, kC_172, kC_173, kC_174, kC_175, kC_176, kC_177, kC_178, kC_179, kC_180, kC_181, kC_182, kC_183, kC_184, pC_1_0, pC_1_2, pC_1_3, pC_1_4, pC_1_5, pC_1_6, pC_1_7, pC_1_8, pC_1_9, pC_1_10, pC_1_11, pC_3_5, pC_5_0, pC_5_1, pC_5_2, pC_5_6, pC_5_7, pC_5_8, pC_5_9, pC_5_10, pC_13_0, pC_13_1, pC_13_2, pC_13_6, pC_13_7, pC_13_8, pC_13_9, pC_13_10, pC_21_0, pC_21_1, pC_21_2, pC_21_6, pC_21_7, pC_21_8, pC_21_9, pC_21_10, pC_29_0, pC_29_1, pC_29_2, pC_145_0, pC_145_1, pC_145_2, pC_145_3, pC_145_4, pC_149_0, pC_149_1, pC_149_2, pC_164_1, pC_164_2, pC_164_3, pC_168_0, pC_168_3, pC_168_4, pC_168_5, pC_172_0, pC_175_0, pC_175_2, pC_175_3, pC_175_5, pC_180_0, pC_180_2, pC_180_3, pC_180_5, e1, e0]
    refine s_57_44 (Nat.le_of_ble_eq_true rfl) (st_k ho) (hlk d (by omega)) ?_
    simp only [s_57_0, s_57_5, s_57_6, s_57_9, s_57_10, s_57_11, s_57_13, s_57_14, s_57_17, s_57_18, s_57_19, s_57_21, s_57_22, s_57_26, s_57_27, s_57_30, s_57_33, s_57_36, s_57_37, s_57_38, s_57_39, s_57_41, s_57_42, s_57_50, s_57_52, s_57_53, s_57_56, s_57_58, s_57_60, s_57_63, s_57_65, s_57_67, s_57_68, s_57_69, s_57_70, s_57_73, s_57_74, s_57_75, s_57_78, s_57_81, s_57_82, s_57_85, s_57_87, s_57_88, s_57_91, s_57_92, s_57_95, s_57_97, s_57_98, s_57_101, s_57_102, s_57_103, s_57_108, s_57_109, s_57_112, s_57_114, s_57_115, s_57_117, s_57_120, s_57_122, s_57_123, s_57_126, s_57_128, s_57_129, s_57_131, s_57_132, s_57_135, s_57_136, s_57_138, s_57_140, s_57_145, true_and, and_true, sc0, sc1, sc2, sc3, sc4, Option.toList, List.cons_append, List.nil_append, clr, ne_eq, not_false_eq_true, not_true_eq_false, false_and, and_false, true_or, or_true, or_false, false_or, forall_const, Nat.reduceEqDiff, List.length_nil, List.length_cons, Nat.zero_le, Nat.reduceAdd, Nat.reduceLeDiff, false_implies, true_implies, Int.reduceEq, Int.reduceNe, Int.reduceLT, Int.reduceLE, Int.reduceNeg, Int.reduceToNat, Int.toNat_natCast, Nat.reduceLT, and_self, Decidable.not_not, kC_0, kC_1, kC_2, kC_3, kC_4, kC_5, kC_6, kC_7, kC_8, kC_9, kC_10, kC_11, kC_12, kC_13, kC_14, kC_15, kC_16, kC_17, kC_18, kC_19, kC_20, kC_21, kC_22, kC_23, kC_24, kC_25, kC_26, kC_27, kC_28, kC_29, kC_30, kC_31, kC_32, kC_145, kC_146, kC_147, kC_148, kC_149, kC_150, kC_151, kC_164, kC_165, kC_166, kC_167, kC_168, kC_169, kC_170, kC_171, kC_172, kC_173, kC_174, kC_175, kC_176, kC_177, kC_178, kC_179, kC_180, kC_181, kC_182, kC_183, kC_184, pC_1_0, pC_1_2, pC_1_3, pC_1_4, pC_1_5, pC_1_6, pC_1_7, pC_1_8, pC_1_9, pC_1_10, pC_1_11, pC_3_5, pC_5_0, pC_5_1, pC_5_2, pC_5_6, pC_5_7, pC_5_8, pC_5_9, pC_5_10, pC_13_0, pC_13_1, pC_13_2, pC_13_6, pC_13_7, pC_13_8, pC_13_9, pC_13_10, pC_21_0, pC_21_1, pC_21_2, pC_21_6, pC_21_7, pC_21_8, pC_21_9, pC_21_10, pC_29_0, pC_29_1, pC_29_2, pC_145_0, pC_145_1, pC_145_2, pC_145_3, pC_145_4, pC_149_0, pC_149_1, pC_149_2, pC_164_1, pC_164_2, pC_164_3, pC_168_0, pC_168_3, pC_168_4, pC_168_5, pC_172_0, pC_175_0, pC_175_2, pC_175_3, pC_175_5, pC_180_0, pC_180_2, pC_180_3, pC_180_5]
    obtain ⟨v, P2, N2, hE, hP, hv, hN2⟩ := c_hardness (b := b) (lk := A (72 + i)) hq ho hg6 (show i < 36 by omega) vf.2.2 hRN d (by omega)
    subst hP
    rw [env_CA hSN hV hi hg] at hv
    have hv' : v = some (pI (hF V A g i)) := by rw [hF_at (show i < 36 by omega)]; exact hv
    subst hv'
    refine s_57_47 (Nat.le_of_ble_eq_true rfl) (ru_k hq) hE ?_
    have hhr : 0 ≤ hF V A g i ∧ hF V A g i ≤ 99 := hH i hi
    by_cases g0 : 0 < hF V A g i
    · have g1 : ¬ hF V A g i ≤ 0 := by omega
      have e6 : EqW (w32 (hF V A g i * 64)) (64 * hF V A g i) := EqW_i <| by unfold w32; omega
      have e7 : EqW (w32 (64 * hF V A g i + 1)) (cst (hF V A g) i) := EqW_i <| by unfold w32 cst; omega
      simp only [s_57_0, s_57_5, s_57_6, s_57_9, s_57_10, s_57_11, s_57_13, s_57_14, s_57_17, s_57_18, s_57_19, s_57_21, s_57_22, s_57_26, s_57_27, s_57_30, s_57_33, s_57_36, s_57_37, s_57_38, s_57_39, s_57_41, s_57_42, s_57_50, s_57_52, s_57_53, s_57_56, s_57_58, s_57_60, s_57_63, s_57_65, s_57_67, s_57_68, s_57_69, s_57_70, s_57_73, s_57_74, s_57_75, s_57_78, s_57_81, s_57_82, s_57_85, s_57_87, s_57_88, s_57_91, s_57_92, s_57_95, s_57_97, s_57_98, s_57_101, s_57_102, s_57_103, s_57_108, s_57_109, s_57_112, s_57_114, s_57_115, s_57_117, s_57_120, s_57_122, s_57_123, s_57_126, s_57_128, s_57_129, s_57_131, s_57_132, s_57_135, s_57_136, s_57_138, s_57_140, s_57_145, true_and, and_true, sc0, sc1, sc2, sc3, sc4, Option.toList, List.cons_append, List.nil_append, clr, ne_eq, not_false_eq_true, not_true_eq_false, false_and, and_false, true_or, or_true, or_false, false_or, forall_const, Nat.reduceEqDiff, List.length_nil, List.length_cons, Nat.zero_le, Nat.reduceAdd, Nat.reduceLeDiff, false_implies, true_implies, Int.reduceEq, Int.reduceNe, Int.reduceLT, Int.reduceLE, Int.reduceNeg, Int.reduceToNat, Int.toNat_natCast, Nat.reduceLT, and_self, Decidable.not_not, kC_0, kC_1, kC_2, kC_3, kC_4, kC_5, kC_6, kC_7, kC_8, kC_9, kC_10, kC_11, kC_12, kC_13, kC_14, kC_15, kC_16, kC_17, kC_18, kC_19, kC_20, kC_21, kC_22, kC_23, kC_24, kC_25, kC_26, kC_27, kC_28, kC_29, kC_30, kC_31, kC_32, kC_145, kC_146, kC_147, kC_148, kC_149, kC_150, kC_151, kC_164, kC_165, kC_166, kC_167, kC_168, kC_169, kC_170, kC_171, kC_172, kC_173, kC_174, kC_175, kC_176, kC_177, kC_178, kC_179, kC_180, kC_181, kC_182, kC_183, kC_184, pC_1_0, pC_1_2, pC_1_3, pC_1_4, pC_1_5, pC_1_6, pC_1_7, pC_1_8, pC_1_9, pC_1_10, pC_1_11, pC_3_5, pC_5_0, pC_5_1, pC_5_2, pC_5_6, pC_5_7, pC_5_8, pC_5_9, pC_5_10, pC_13_0, pC_13_1, pC_13_2, pC_13_6, pC_13_7, pC_13_8, pC_13_9, pC_13_10, pC_21_0, pC_21_1, pC_21_2, pC_21_6, pC_21_7, pC_21_8, pC_21_9, pC_21_10, pC_29_0, pC_29_1, pC_29_2, pC_145_0, pC_145_1, pC_145_2, pC_145_3, pC_145_4, pC_149_0, pC_149_1, pC_149_2, pC_164_1, pC_164_2, pC_164_3, pC_168_0, pC_168_3, pC_168_4, pC_168_5, pC_172_0, pC_175_0, pC_175_2, pC_175_3, pC_175_5, pC_180_0, pC_180_2, pC_180_3, pC_180_5, g1, (EqW_o e6), (EqW_o e7), bi0, bi1, (EqW_o en)]
      refine ih (_, _) ⟨?_, fun f hf => ?_⟩
      · exact same_u (fun p hp => (hN2 p (by simp at hp ⊢; exact hp.1)).trans (a1 p hp)) (by simp)
      · show uM N2 150 i _ 150 f = _
        rw [uM_at, if_pos rfl]
        by_cases e : f = i
        · subst e; rw [if_pos rfl, if_pos g0]
        · rw [if_neg e, hN2 150 (by simp; omega)]; exact a2 f (by omega)
    · have g1 : hF V A g i ≤ 0 := by omega
      simp only [s_57_0, s_57_5, s_57_6, s_57_9, s_57_10, s_57_11, s_57_13, s_57_14, s_57_17, s_57_18, s_57_19, s_57_21, s_57_22, s_57_26, s_57_27, s_57_30, s_57_33, s_57_36, s_57_37, s_57_38, s_57_39, s_57_41, s_57_42, s_57_50, s_57_52, s_57_53, s_57_56, s_57_58, s_57_60, s_57_63, s_57_65, s_57_67, s_57_68, s_57_69, s_57_70, s_57_73, s_57_74, s_57_75, s_57_78, s_57_81, s_57_82, s_57_85, s_57_87, s_57_88, s_57_91, s_57_92, s_57_95, s_57_97, s_57_98, s_57_101, s_57_102, s_57_103, s_57_108, s_57_109, s_57_112, s_57_114, s_57_115, s_57_117, s_57_120, s_57_122, s_57_123, s_57_126, s_57_128, s_57_129, s_57_131, s_57_132, s_57_135, s_57_136, s_57_138, s_57_140, s_57_145, true_and, and_true, sc0, sc1, sc2, sc3, sc4, Option.toList, List.cons_append, List.nil_append, clr, ne_eq, not_false_eq_true, not_true_eq_false, false_and, and_false, true_or, or_true, or_false, false_or, forall_const, Nat.reduceEqDiff, List.length_nil, List.length_cons, Nat.zero_le, Nat.reduceAdd, Nat.reduceLeDiff, false_implies, true_implies, Int.reduceEq, Int.reduceNe, Int.reduceLT, Int.reduceLE, Int.reduceNeg, Int.reduceToNat, Int.toNat_natCast, Nat.reduceLT, and_self, Decidable.not_not, kC_0, kC_1, kC_2, kC_3, kC_4, kC_5, kC_6, kC_7, kC_8, kC_9, kC_10, kC_11, kC_12, kC_13, kC_14, kC_15, kC_16, kC_17, kC_18, kC_19, kC_20, kC_21, kC_22, kC_23, kC_24, kC_25, kC_26, kC_27, kC_28, kC_29, kC_30, kC_31, kC_32, kC_145, kC_146, kC_147, kC_148, kC_149, kC_150, kC_151, kC_164, kC_165, kC_166, kC_167, kC_168, kC_169, kC_170, kC_171, kC_172, kC_173, kC_174, kC_175, kC_176, kC_177, kC_178, kC_179, kC_180, kC_181, kC_182, kC_183, kC_184, pC_1_0, pC_1_2, pC_1_3, pC_1_4, pC_1_5, pC_1_6, pC_1_7, pC_1_8, pC_1_9, pC_1_10, pC_1_11, pC_3_5, pC_5_0, pC_5_1, pC_5_2, pC_5_6, pC_5_7, pC_5_8, pC_5_9, pC_5_10, pC_13_0, pC_13_1, pC_13_2, pC_13_6, pC_13_7, pC_13_8, pC_13_9, pC_13_10, pC_21_0, pC_21_1, pC_21_2, pC_21_6, pC_21_7, pC_21_8, pC_21_9, pC_21_10, pC_29_0, pC_29_1, pC_29_2, pC_145_0, pC_145_1, pC_145_2, pC_145_3, pC_145_4, pC_149_0, pC_149_1, pC_149_2, pC_164_1, pC_164_2, pC_164_3, pC_168_0, pC_168_3, pC_168_4, pC_168_5, pC_172_0, pC_175_0, pC_175_2, pC_175_3, pC_175_5, pC_180_0, pC_180_2, pC_180_3, pC_180_5, g1, bi0, bi1, (EqW_o en)]
      refine ih (_, _) ⟨?_, fun f hf => ?_⟩
      · exact same_u (fun p hp => (hN2 p (by simp at hp ⊢; exact hp.1)).trans (a1 p hp)) (by simp)
      · show uM N2 150 i _ 150 f = _
        rw [uM_at, if_pos rfl]
        by_cases e : f = i
        · subst e; rw [if_pos rfl, if_neg g0]
        · rw [if_neg e, hN2 150 (by simp; omega)]; exact a2 f (by omega)
  obtain ⟨N, l8⟩ := x
  obtain ⟨a1, a2⟩ := hx
  dsimp only at a1 a2
  have hNM : same N M [q + 2, 150, 151, 152 + 2 * g, 153 + 2 * g] := fun p hp => by
    rw [a1 p (by simp at hp ⊢; exact ⟨hp.1, hp.2.1⟩), hM1 p hp]
  have e1 : N 3 2 = (z : Int) := by rw [hNM 3 (by simp; omega)]; exact hsz
  have bs0 : (0 : Int) ≤ (s : Int) := by omega
  have bs1 : (s : Int) < ((36 : Nat) : Int) := by omega
  have bt0 : (0 : Int) ≤ (t : Int) := by omega
  have bt1 : (t : Int) < ((36 : Nat) : Int) := by omega
  have hCN : CoC N (hF V A g) z := a2
  have hGN : GrC N r c z := GrC_cg hG (hNM 3 (by simp; omega)) (hNM 4 (by simp; omega))
  have p0 : N (152 + 2 * g) 0 = 0 := by rw [a1 (152 + 2 * g) (by simp; omega)]; simp [M1, uM_at]
  have p1 : N (152 + 2 * g) 1 = 0 := by rw [a1 (152 + 2 * g) (by simp; omega)]; simp [M1, uM_at]
  have p2 : N (152 + 2 * g) 2 = 0 := by rw [a1 (152 + 2 * g) (by simp; omega)]; simp [M1, uM_at]
  have hnone : ∀ N' : MM, N' (152 + 2 * g) = N (152 + 2 * g) → ¬ hasP c z (hF V A g) s t → PaC N' g c z (hF V A g) s t := by
    intro N' hN' hno
    have hp0 : pN c z (hF V A g) s t = 0 := pN_0.mpr hno
    refine ⟨by rw [if_neg hno, hN', p0], by rw [hp0, hN', p1]; rfl, ?_, fun k hk => by rw [hp0] at hk; omega⟩
    have : bs (onW c z (hF V A g) s t) z = 0 := by
      apply Nat.eq_of_testBit_eq
      intro f
      rw [bs_bit]
      unfold onW
      rw [hp0]
      simp
    rw [this, hN', p2]; rfl
  rw [s_57_24]
  by_cases c1 : 0 < hF V A g s
  case neg =>
    have k1 : N 150 s = 0 := by rw [a2 s hsz', if_neg c1]
    simp only [s_57_0, s_57_5, s_57_6, s_57_9, s_57_10, s_57_11, s_57_13, s_57_14, s_57_17, s_57_18, s_57_19, s_57_21, s_57_22, s_57_26, s_57_27, s_57_30, s_57_33, s_57_36, s_57_37, s_57_38, s_57_39, s_57_41, s_57_42, s_57_50, s_57_52, s_57_53, s_57_56, s_57_58, s_57_60, s_57_63, s_57_65, s_57_67, s_57_68, s_57_69, s_57_70, s_57_73, s_57_74, s_57_75, s_57_78, s_57_81, s_57_82, s_57_85, s_57_87, s_57_88, s_57_91, s_57_92, s_57_95, s_57_97, s_57_98, s_57_101, s_57_102, s_57_103, s_57_108, s_57_109, s_57_112, s_57_114, s_57_115, s_57_117, s_57_120, s_57_122, s_57_123, s_57_126, s_57_128, s_57_129, s_57_131, s_57_132, s_57_135, s_57_136, s_57_138, s_57_140, s_57_145, true_and, and_true, sc0, sc1, sc2, sc3, sc4, Option.toList, List.cons_append, List.nil_append, clr, ne_eq, not_false_eq_true, not_true_eq_false, false_and, and_false, true_or, or_true, or_false, false_or, forall_const, Nat.reduceEqDiff, List.length_nil, List.length_cons, Nat.zero_le, Nat.reduceAdd, Nat.reduceLeDiff, false_implies, true_implies, Int.reduceEq, Int.reduceNe, Int.reduceLT, Int.reduceLE, Int.reduceNeg, Int.reduceToNat, Int.toNat_natCast, Nat.reduceLT, and_self, Decidable.not_not, kC_0, kC_1, kC_2, kC_3, kC_4, kC_5, kC_6, kC_7, kC_8, kC_9, kC_10, kC_11, kC_12, kC_13, kC_14, kC_15, kC_16, kC_17, kC_18, kC_19, kC_20, kC_21, kC_22, kC_23, kC_24, kC_25, kC_26, kC_27, kC_28, kC_29, kC_30, kC_31, kC_32, kC_145, kC_146, kC_147, kC_148, kC_149, kC_150, kC_151, kC_164, kC_165, kC_166, kC_167, kC_168, kC_169, kC_170, kC_171, kC_172, kC_173, kC_174, kC_175, kC_176, kC_177, kC_178, kC_179, kC_180, kC_181, kC_182, kC_183, kC_184, pC_1_0, pC_1_2, pC_1_3, pC_1_4, pC_1_5, pC_1_6, pC_1_7, pC_1_8, pC_1_9, pC_1_10, pC_1_11, pC_3_5, pC_5_0, pC_5_1, pC_5_2, pC_5_6, pC_5_7, pC_5_8, pC_5_9, pC_5_10, pC_13_0, pC_13_1, pC_13_2, pC_13_6, pC_13_7, pC_13_8, pC_13_9, pC_13_10, pC_21_0, pC_21_1, pC_21_2, pC_21_6, pC_21_7, pC_21_8, pC_21_9, pC_21_10, pC_29_0, pC_29_1, pC_29_2, pC_145_0, pC_145_1, pC_145_2, pC_145_3, pC_145_4, pC_149_0, pC_149_1, pC_149_2, pC_164_1, pC_164_2, pC_164_3, pC_168_0, pC_168_3, pC_168_4, pC_168_5, pC_172_0, pC_175_0, pC_175_2, pC_175_3, pC_175_5, pC_180_0, pC_180_2, pC_180_3, pC_180_5, e1, Int.le_refl, k1, bs0, bs1]
    exact ⟨hNM, hnone N rfl (fun q => c1 q.1)⟩
  have k1 : ¬ N 150 s = 0 := by rw [a2 s hsz', if_pos c1]; unfold cst; omega
  by_cases c2 : 0 < hF V A g t
  case neg =>
    have k2 : N 150 t = 0 := by rw [a2 t htz', if_neg c2]
    simp only [s_57_0, s_57_5, s_57_6, s_57_9, s_57_10, s_57_11, s_57_13, s_57_14, s_57_17, s_57_18, s_57_19, s_57_21, s_57_22, s_57_26, s_57_27, s_57_30, s_57_33, s_57_36, s_57_37, s_57_38, s_57_39, s_57_41, s_57_42, s_57_50, s_57_52, s_57_53, s_57_56, s_57_58, s_57_60, s_57_63, s_57_65, s_57_67, s_57_68, s_57_69, s_57_70, s_57_73, s_57_74, s_57_75, s_57_78, s_57_81, s_57_82, s_57_85, s_57_87, s_57_88, s_57_91, s_57_92, s_57_95, s_57_97, s_57_98, s_57_101, s_57_102, s_57_103, s_57_108, s_57_109, s_57_112, s_57_114, s_57_115, s_57_117, s_57_120, s_57_122, s_57_123, s_57_126, s_57_128, s_57_129, s_57_131, s_57_132, s_57_135, s_57_136, s_57_138, s_57_140, s_57_145, true_and, and_true, sc0, sc1, sc2, sc3, sc4, Option.toList, List.cons_append, List.nil_append, clr, ne_eq, not_false_eq_true, not_true_eq_false, false_and, and_false, true_or, or_true, or_false, false_or, forall_const, Nat.reduceEqDiff, List.length_nil, List.length_cons, Nat.zero_le, Nat.reduceAdd, Nat.reduceLeDiff, false_implies, true_implies, Int.reduceEq, Int.reduceNe, Int.reduceLT, Int.reduceLE, Int.reduceNeg, Int.reduceToNat, Int.toNat_natCast, Nat.reduceLT, and_self, Decidable.not_not, kC_0, kC_1, kC_2, kC_3, kC_4, kC_5, kC_6, kC_7, kC_8, kC_9, kC_10, kC_11, kC_12, kC_13, kC_14, kC_15, kC_16, kC_17, kC_18, kC_19, kC_20, kC_21, kC_22, kC_23, kC_24, kC_25, kC_26, kC_27, kC_28, kC_29, kC_30, kC_31, kC_32, kC_145, kC_146, kC_147, kC_148, kC_149, kC_150, kC_151, kC_164, kC_165, kC_166, kC_167, kC_168, kC_169, kC_170, kC_171, kC_172, kC_173, kC_174, kC_175, kC_176, kC_177, kC_178, kC_179, kC_180, kC_181, kC_182, kC_183, kC_184, pC_1_0, pC_1_2, pC_1_3, pC_1_4, pC_1_5, pC_1_6, pC_1_7, pC_1_8, pC_1_9, pC_1_10, pC_1_11, pC_3_5, pC_5_0, pC_5_1, pC_5_2, pC_5_6, pC_5_7, pC_5_8, pC_5_9, pC_5_10, pC_13_0, pC_13_1, pC_13_2, pC_13_6, pC_13_7, pC_13_8, pC_13_9, pC_13_10, pC_21_0, pC_21_1, pC_21_2, pC_21_6, pC_21_7, pC_21_8, pC_21_9, pC_21_10, pC_29_0, pC_29_1, pC_29_2, pC_145_0, pC_145_1, pC_145_2, pC_145_3, pC_145_4, pC_149_0, pC_149_1, pC_149_2, pC_164_1, pC_164_2, pC_164_3, pC_168_0, pC_168_3, pC_168_4, pC_168_5, pC_172_0, pC_175_0, pC_175_2, pC_175_3, pC_175_5, pC_180_0, pC_180_2, pC_180_3, pC_180_5, e1, Int.le_refl, k1, k2, bs0, bs1, bt0, bt1]
    exact ⟨hNM, hnone N rfl (fun q => c2 q.2.1)⟩
  have k2 : ¬ N 150 t = 0 := by rw [a2 t htz', if_pos c2]; unfold cst; omega
  simp only [s_57_0, s_57_5, s_57_6, s_57_9, s_57_10, s_57_11, s_57_13, s_57_14, s_57_17, s_57_18, s_57_19, s_57_21, s_57_22, s_57_26, s_57_27, s_57_30, s_57_33, s_57_36, s_57_37, s_57_38, s_57_39, s_57_41, s_57_42, s_57_50, s_57_52, s_57_53, s_57_56, s_57_58, s_57_60, s_57_63, s_57_65, s_57_67, s_57_68, s_57_69, s_57_70, s_57_73, s_57_74, s_57_75, s_57_78, s_57_81, s_57_82, s_57_85, s_57_87, s_57_88, s_57_91, s_57_92, s_57_95, s_57_97, s_57_98, s_57_101, s_57_102, s_57_103, s_57_108, s_57_109, s_57_112, s_57_114, s_57_115, s_57_117, s_57_120, s_57_122, s_57_123, s_57_126, s_57_128, s_57_129, s_57_131, s_57_132, s_57_135, s_57_136, s_57_138, s_57_140, s_57_145, true_and, and_true, sc0, sc1, sc2, sc3, sc4, Option.toList, List.cons_append, List.nil_append, clr, ne_eq, not_false_eq_true, not_true_eq_false, false_and, and_false, true_or, or_true, or_false, false_or, forall_const, Nat.reduceEqDiff, List.length_nil, List.length_cons, Nat.zero_le, Nat.reduceAdd, Nat.reduceLeDiff, false_implies, true_implies, Int.reduceEq, Int.reduceNe, Int.reduceLT, Int.reduceLE, Int.reduceNeg, Int.reduceToNat, Int.toNat_natCast, Nat.reduceLT, and_self, Decidable.not_not, kC_0, kC_1, kC_2, kC_3, kC_4, kC_5, kC_6, kC_7, kC_8, kC_9, kC_10, kC_11, kC_12, kC_13, kC_14, kC_15, kC_16, kC_17, kC_18, kC_19, kC_20, kC_21, kC_22, kC_23, kC_24, kC_25, kC_26, kC_27, kC_28, kC_29, kC_30, kC_31, kC_32, kC_145, kC_146, kC_147, kC_148, kC_149, kC_150, kC_151, kC_164, kC_165, kC_166, kC_167, kC_168, kC_169, kC_170, kC_171, kC_172, kC_173, kC_174, kC_175, kC_176, kC_177, kC_178, kC_179, kC_180, kC_181, kC_182, kC_183, kC_184, pC_1_0, pC_1_2, pC_1_3, pC_1_4, pC_1_5, pC_1_6, pC_1_7, pC_1_8, pC_1_9, pC_1_10, pC_1_11, pC_3_5, pC_5_0, pC_5_1, pC_5_2, pC_5_6, pC_5_7, pC_5_8, pC_5_9, pC_5_10, pC_13_0, pC_13_1, pC_13_2, pC_13_6, pC_13_7, pC_13_8, pC_13_9, pC_13_10, pC_21_0, pC_21_1, pC_21_2, pC_21_6, pC_21_7, pC_21_8, pC_21_9, pC_21_10, pC_29_0, pC_29_1, pC_29_2, pC_145_0, pC_145_1, pC_145_2, pC_145_3, pC_145_4, pC_149_0, pC_149_1, pC_149_2, pC_164_1, pC_164_2, pC_164_3, pC_168_0, pC_168_3, pC_168_4, pC_168_5, pC_172_0, pC_175_0, pC_175_2, pC_175_3, pC_175_5, pC_180_0, pC_180_2, pC_180_3, pC_180_5, e1, Int.le_refl, k1, k2, bs0, bs1, bt0, bt1]
  obtain ⟨v, P2, N2, hE, hv, hP, hN2, hD2⟩ := c_measure (b := b) hGN hH hCN htz' d (by omega)
  subst hv; subst hP
  refine s_57_105 (Nat.le_of_ble_eq_true rfl) kC_149 hE ?_
  have hDD := dD_is (t := t) hL hH
  have hNV : (221795 : Int) < NV := by decide
  have hu := IsD_un hL hH hD2 hDD hNV hNV hsz'
  have hN2M : same N2 M [q + 2, 150, 151, 152 + 2 * g, 153 + 2 * g] := fun p hp => by
    rw [hN2 p (by simp at hp; exact hp.2.2.1), hNM p hp]
  by_cases c3 : N2 151 s < NV
  case neg =>
    have k3 : (1073741824 : Int) ≤ N2 151 s := by unfold NV at c3; omega
    simp only [s_57_0, s_57_5, s_57_6, s_57_9, s_57_10, s_57_11, s_57_13, s_57_14, s_57_17, s_57_18, s_57_19, s_57_21, s_57_22, s_57_26, s_57_27, s_57_30, s_57_33, s_57_36, s_57_37, s_57_38, s_57_39, s_57_41, s_57_42, s_57_50, s_57_52, s_57_53, s_57_56, s_57_58, s_57_60, s_57_63, s_57_65, s_57_67, s_57_68, s_57_69, s_57_70, s_57_73, s_57_74, s_57_75, s_57_78, s_57_81, s_57_82, s_57_85, s_57_87, s_57_88, s_57_91, s_57_92, s_57_95, s_57_97, s_57_98, s_57_101, s_57_102, s_57_103, s_57_108, s_57_109, s_57_112, s_57_114, s_57_115, s_57_117, s_57_120, s_57_122, s_57_123, s_57_126, s_57_128, s_57_129, s_57_131, s_57_132, s_57_135, s_57_136, s_57_138, s_57_140, s_57_145, true_and, and_true, sc0, sc1, sc2, sc3, sc4, Option.toList, List.cons_append, List.nil_append, clr, ne_eq, not_false_eq_true, not_true_eq_false, false_and, and_false, true_or, or_true, or_false, false_or, forall_const, Nat.reduceEqDiff, List.length_nil, List.length_cons, Nat.zero_le, Nat.reduceAdd, Nat.reduceLeDiff, false_implies, true_implies, Int.reduceEq, Int.reduceNe, Int.reduceLT, Int.reduceLE, Int.reduceNeg, Int.reduceToNat, Int.toNat_natCast, Nat.reduceLT, and_self, Decidable.not_not, kC_0, kC_1, kC_2, kC_3, kC_4, kC_5, kC_6, kC_7, kC_8, kC_9, kC_10, kC_11, kC_12, kC_13, kC_14, kC_15, kC_16, kC_17, kC_18, kC_19, kC_20, kC_21, kC_22, kC_23, kC_24, kC_25, kC_26, kC_27, kC_28, kC_29, kC_30, kC_31, kC_32, kC_145, kC_146, kC_147, kC_148, kC_149, kC_150, kC_151, kC_164, kC_165, kC_166, kC_167, kC_168, kC_169, kC_170, kC_171, kC_172, kC_173, kC_174, kC_175, kC_176, kC_177, kC_178, kC_179, kC_180, kC_181, kC_182, kC_183, kC_184, pC_1_0, pC_1_2, pC_1_3, pC_1_4, pC_1_5, pC_1_6, pC_1_7, pC_1_8, pC_1_9, pC_1_10, pC_1_11, pC_3_5, pC_5_0, pC_5_1, pC_5_2, pC_5_6, pC_5_7, pC_5_8, pC_5_9, pC_5_10, pC_13_0, pC_13_1, pC_13_2, pC_13_6, pC_13_7, pC_13_8, pC_13_9, pC_13_10, pC_21_0, pC_21_1, pC_21_2, pC_21_6, pC_21_7, pC_21_8, pC_21_9, pC_21_10, pC_29_0, pC_29_1, pC_29_2, pC_145_0, pC_145_1, pC_145_2, pC_145_3, pC_145_4, pC_149_0, pC_149_1, pC_149_2, pC_164_1, pC_164_2, pC_164_3, pC_168_0, pC_168_3, pC_168_4, pC_168_5, pC_172_0, pC_175_0, pC_175_2, pC_175_3, pC_175_5, pC_180_0, pC_180_2, pC_180_3, pC_180_5, k3, bs0, bs1]
    exact ⟨hN2M, hnone N2 (hN2 _ (by omega)) (fun q => c3 (hu.1.mpr q.2.2))⟩
  have k3 : ¬ (1073741824 : Int) ≤ N2 151 s := by unfold NV at c3; omega
  have hp : hasP c z (hF V A g) s t := ⟨c1, c2, hu.1.mp c3⟩
  have hge := (hD2.1.2.1 s hsz').1
  have hle := IsD_bd2 hL hH hD2 hsz' c3
  have e9 : EqW (w32 ((N2 151 s).tdiv 64)) (pV c z (hF V A g) s t) := EqW_i <| by
    unfold pV
    rw [if_pos hp, ← hu.2 c3, Int.tdiv_eq_ediv_of_nonneg hge]
    unfold w32; omega
  simp only [s_57_0, s_57_5, s_57_6, s_57_9, s_57_10, s_57_11, s_57_13, s_57_14, s_57_17, s_57_18, s_57_19, s_57_21, s_57_22, s_57_26, s_57_27, s_57_30, s_57_33, s_57_36, s_57_37, s_57_38, s_57_39, s_57_41, s_57_42, s_57_50, s_57_52, s_57_53, s_57_56, s_57_58, s_57_60, s_57_63, s_57_65, s_57_67, s_57_68, s_57_69, s_57_70, s_57_73, s_57_74, s_57_75, s_57_78, s_57_81, s_57_82, s_57_85, s_57_87, s_57_88, s_57_91, s_57_92, s_57_95, s_57_97, s_57_98, s_57_101, s_57_102, s_57_103, s_57_108, s_57_109, s_57_112, s_57_114, s_57_115, s_57_117, s_57_120, s_57_122, s_57_123, s_57_126, s_57_128, s_57_129, s_57_131, s_57_132, s_57_135, s_57_136, s_57_138, s_57_140, s_57_145, true_and, and_true, sc0, sc1, sc2, sc3, sc4, Option.toList, List.cons_append, List.nil_append, clr, ne_eq, not_false_eq_true, not_true_eq_false, false_and, and_false, true_or, or_true, or_false, false_or, forall_const, Nat.reduceEqDiff, List.length_nil, List.length_cons, Nat.zero_le, Nat.reduceAdd, Nat.reduceLeDiff, false_implies, true_implies, Int.reduceEq, Int.reduceNe, Int.reduceLT, Int.reduceLE, Int.reduceNeg, Int.reduceToNat, Int.toNat_natCast, Nat.reduceLT, and_self, Decidable.not_not, kC_0, kC_1, kC_2, kC_3, kC_4, kC_5, kC_6, kC_7, kC_8, kC_9, kC_10, kC_11, kC_12, kC_13, kC_14, kC_15, kC_16, kC_17, kC_18, kC_19, kC_20, kC_21, kC_22, kC_23, kC_24, kC_25, kC_26, kC_27, kC_28, kC_29, kC_30, kC_31, kC_32, kC_145, kC_146, kC_147, kC_148, kC_149, kC_150, kC_151, kC_164, kC_165, kC_166, kC_167, kC_168, kC_169, kC_170, kC_171, kC_172, kC_173, kC_174, kC_175, kC_176, kC_177, kC_178, kC_179, kC_180, kC_181, kC_182, kC_183, kC_184, pC_1_0, pC_1_2, pC_1_3, pC_1_4, pC_1_5, pC_1_6, pC_1_7, pC_1_8, pC_1_9, pC_1_10, pC_1_11, pC_3_5, pC_5_0, pC_5_1, pC_5_2, pC_5_6, pC_5_7, pC_5_8, pC_5_9, pC_5_10, pC_13_0, pC_13_1, pC_13_2, pC_13_6, pC_13_7, pC_13_8, pC_13_9, pC_13_10, pC_21_0, pC_21_1, pC_21_2, pC_21_6, pC_21_7, pC_21_8, pC_21_9, pC_21_10, pC_29_0, pC_29_1, pC_29_2, pC_145_0, pC_145_1, pC_145_2, pC_145_3, pC_145_4, pC_149_0, pC_149_1, pC_149_2, pC_164_1, pC_164_2, pC_164_3, pC_168_0, pC_168_3, pC_168_4, pC_168_5, pC_172_0, pC_175_0, pC_175_2, pC_175_3, pC_175_5, pC_180_0, pC_180_2, pC_180_3, pC_180_5, k3, bs0, bs1, (EqW_o e9), pa_k hg6]
  have hG3 : GrC (uM N2 (152 + 2 * g) 0 (pV c z (hF V A g) s t)) r c z := GrC_cg hGN (by rw [uM_ne (by omega)]; exact hN2 3 (by decide)) (by rw [uM_ne (by omega)]; exact hN2 4 (by decide))
  have hC3 : CoC (uM N2 (152 + 2 * g) 0 (pV c z (hF V A g) s t)) (hF V A g) z := fun f hf => by rw [uM_ne (by omega), hN2 150 (by decide)]; exact hCN f hf
  have hD3 : IsD c z (hF V A g) t NV (uM N2 (152 + 2 * g) 0 (pV c z (hF V A g) s t) 151) := by rw [uM_ne (by omega)]; exact hD2
  have f1 : uM N2 (152 + 2 * g) 0 (pV c z (hF V A g) s t) (152 + 2 * g) 1 = 0 := by rw [uM_at, if_pos rfl, if_neg (by decide), hN2 _ (by omega), p1]
  have f2 : uM N2 (152 + 2 * g) 0 (pV c z (hF V A g) s t) (152 + 2 * g) 2 = 0 := by rw [uM_at, if_pos rfl, if_neg (by decide), hN2 _ (by omega), p2]
  obtain ⟨v, P2, N4, hE, hv, hP, w1, w2, w3, w4, w5⟩ := c_follow (b := b) hg6 hG3 hH hC3 hD3 hsz' hp f1 f2 d (by omega)
  subst hv; subst hP
  refine s_57_142 (Nat.le_of_ble_eq_true rfl) kC_149 hE ?_
  simp only [s_57_0, s_57_5, s_57_6, s_57_9, s_57_10, s_57_11, s_57_13, s_57_14, s_57_17, s_57_18, s_57_19, s_57_21, s_57_22, s_57_26, s_57_27, s_57_30, s_57_33, s_57_36, s_57_37, s_57_38, s_57_39, s_57_41, s_57_42, s_57_50, s_57_52, s_57_53, s_57_56, s_57_58, s_57_60, s_57_63, s_57_65, s_57_67, s_57_68, s_57_69, s_57_70, s_57_73, s_57_74, s_57_75, s_57_78, s_57_81, s_57_82, s_57_85, s_57_87, s_57_88, s_57_91, s_57_92, s_57_95, s_57_97, s_57_98, s_57_101, s_57_102, s_57_103, s_57_108, s_57_109, s_57_112, s_57_114, s_57_115, s_57_117, s_57_120, s_57_122, s_57_123, s_57_126, s_57_128, s_57_129, s_57_131, s_57_132, s_57_135, s_57_136, s_57_138, s_57_140, s_57_145, true_and, and_true, sc0, sc1, sc2, sc3, sc4, Option.toList, List.cons_append, List.nil_append, clr, ne_eq, not_false_eq_true, not_true_eq_false, false_and, and_false, true_or, or_true, or_false, false_or, forall_const, Nat.reduceEqDiff, List.length_nil, List.length_cons, Nat.zero_le, Nat.reduceAdd, Nat.reduceLeDiff, false_implies, true_implies, Int.reduceEq, Int.reduceNe, Int.reduceLT, Int.reduceLE, Int.reduceNeg, Int.reduceToNat, Int.toNat_natCast, Nat.reduceLT, and_self, Decidable.not_not, kC_0, kC_1, kC_2, kC_3, kC_4, kC_5, kC_6, kC_7, kC_8, kC_9, kC_10, kC_11, kC_12, kC_13, kC_14, kC_15, kC_16, kC_17, kC_18, kC_19, kC_20, kC_21, kC_22, kC_23, kC_24, kC_25, kC_26, kC_27, kC_28, kC_29, kC_30, kC_31, kC_32, kC_145, kC_146, kC_147, kC_148, kC_149, kC_150, kC_151, kC_164, kC_165, kC_166, kC_167, kC_168, kC_169, kC_170, kC_171, kC_172, kC_173, kC_174, kC_175, kC_176, kC_177, kC_178, kC_179, kC_180, kC_181, kC_182, kC_183, kC_184, pC_1_0, pC_1_2, pC_1_3, pC_1_4, pC_1_5, pC_1_6, pC_1_7, pC_1_8, pC_1_9, pC_1_10, pC_1_11, pC_3_5, pC_5_0, pC_5_1, pC_5_2, pC_5_6, pC_5_7, pC_5_8, pC_5_9, pC_5_10, pC_13_0, pC_13_1, pC_13_2, pC_13_6, pC_13_7, pC_13_8, pC_13_9, pC_13_10, pC_21_0, pC_21_1, pC_21_2, pC_21_6, pC_21_7, pC_21_8, pC_21_9, pC_21_10, pC_29_0, pC_29_1, pC_29_2, pC_145_0, pC_145_1, pC_145_2, pC_145_3, pC_145_4, pC_149_0, pC_149_1, pC_149_2, pC_164_1, pC_164_2, pC_164_3, pC_168_0, pC_168_3, pC_168_4, pC_168_5, pC_172_0, pC_175_0, pC_175_2, pC_175_3, pC_175_5, pC_180_0, pC_180_2, pC_180_3, pC_180_5]
  refine ⟨fun p hp2 => ?_, by rw [w2, if_pos hp]; simp [uM_at], w3, w4, w5⟩
  have hp3 := hp2
  simp at hp3
  rw [w1 p (by simp; omega), uM_ne (by omega)]
  exact hN2M p hp2
end
