/-! year: alike -/
section
variable {T : Nat → Int} {la ln r c z : Nat}
theorem yP_v (hz : z = r * c) : ∀ (l : List (Int × Int × Int)) (k p : Nat), yP T la ln r c k p = Sum.inr l → p ≤ la → la ≤ p + k → ∀ j, j < l.length → acV z (l.getD j (0, 0, 0))
  | [], k, p, h, h1, h2, j, hj => absurd hj (Nat.not_lt_zero _)
  | x :: l, k, p, h, h1, h2, j, hj => by
    by_cases hp : la ≤ p
    · have := (yP_0 h hp).1; cases this
    obtain ⟨k', l', rfl, hF, e, h3⟩ := yP_s h (by omega) h2
    have e1 := (List.cons.inj e).1
    have e2 := (List.cons.inj e).2
    rw [← e2] at h3
    have hpl := aF_p hF (by omega)
    cases j with
    | zero => rw [e1]; exact acT_v hz hF
    | succ j => exact yP_v hz l k' _ h3 hpl (by omega) j (by simpa using hj)
end
def enY (K : MM) (i : Nat) (x : Int × Int × Int) : Prop := K 17 (3 * i) = x.1 ∧ K 17 (3 * i + 1) = x.2.1 ∧ (x.1 ≠ 110 → x.1 ≠ 108 → K 17 (3 * i + 2) = x.2.2)
section
variable {N N' : MM} {rd t r c z n : Nat} {A A' B : Nat → Int} {V : GV} {u : Int} {U U' : List (Nat → Int)} {K K' : Nat → Option (Nat → Int)} {m : Nat} {F : Nat → Nat} {I : Nat → Bool} {T T' : Nat → Int} {la ln ln' : Nat} {R R' : List Int}
theorem RelR_mk0 {S S' : List Nat} (h : RelR N t r c z n A B V u U K m F I T ln R) (hA : ArR N' 2 A') (hV : SnO B z n A') (hU : UnR N' U') (hK : KpR N' K' (t + 1)) (hX : TxR N' T' ln') (hT : ToR N' R') (hf : Fr S S' N N') (hS : ∀ k, k ∈ [1, 2, 3, 4, 19, 36, 37] → k ∉ S) (hS' : ∀ k, k ∈ [3, 7, 19] → k ∉ S') : RelR N' (t + 1) r c z n A' B V u U' K' m F I T' ln' R' := by
  obtain ⟨⟨v1, v2, v3, v4, v5, v6, v7⟩, b2, b3, b4, b5, b6⟩ := h
  refine ⟨⟨EnR_fr v1 hf ⟨hS 1 (by decide), hS 2 (by decide), hS 3 (by decide), hS 19 (by decide)⟩ ⟨hS' 3 (by decide), hS' 7 (by decide)⟩, hA, hV.1, by rw [hf.1 4 (hS 4 (by decide))]; exact v4, v5, v6, hV.2⟩, hU, hK, ?_, hX, hT⟩
  unfold PrR at b4 ⊢
  rw [hf.1 37 (hS 37 (by decide)), hf.1 36 (hS 36 (by decide)), hf.2 19 (by decide) (hS' 19 (by decide))]; exact b4
theorem WdR_ac {S S' : List Nat} (h : WdR N 7 r c z n A B V u) (hA : ArR N' 2 A') (hV : SnO B z n A') (hf : Fr S S' N N') (hS : ∀ k, k ∈ [1, 2, 3, 4, 19] → k ∉ S) (hS' : ∀ k, k ∈ [3, 7] → k ∉ S') : WdR N' 7 r c z n A' B V u := by
  obtain ⟨v1, v2, v3, v4, v5, v6, v7⟩ := h
  exact ⟨EnR_fr v1 hf ⟨hS 1 (by decide), hS 2 (by decide), hS 3 (by decide), hS 19 (by decide)⟩ ⟨hS' 3 (by decide), hS' 7 (by decide)⟩, hA, hV.1, by rw [hf.1 4 (hS 4 (by decide))]; exact v4, v5, v6, hV.2⟩
theorem r_year (h : RelR N t r c z n A B V u U K m F I T ln R) (hla : la = min ln 60) : Cw 190 214 [pR 1] LR (PR rd 7) N (fun x P' N' => (∃ rd', P' = PR rd' 7) ∧ (∀ w, yP T la ln r c la 0 = Sum.inl w → x = some (pI (-1 - (w : Int))) ∧ RelR N' (t + 1) r c z n A B V u U K m F I T 0 R) ∧ (∀ l, yP T la ln r c la 0 = Sum.inr l → x = some (pI ((yrG c z n V B u l 0 A).1 : Int)) ∧ RelR N' (t + 1) r c z n (yrG c z n V B u l 0 A).2.2 B V u (if (yrG c z n V B u l 0 A).1 = 0 then U else psU A U) K m F I T 0 [(yrG c z n V B u l 0 A).2.1, (yrG c z n V B u l 0 A).2.2 132])) := by
  refine Cw_k [some (pR 1), none, none] (Nat.le_of_ble_eq_true rfl) rfl (fun d hd Q X hQ => ?_)
  have hX : TxR N T ln := h.2.2.2.2.1
  obtain ⟨x1, x2, x3⟩ := h.2.2.2.2.1
  obtain ⟨u1, u2, u3⟩ := h.2.1
  have hz := EnR_z h.1.1
  have hzr : z = r * c := h.1.1.2.1
  have hSO : SnO B z n A := ⟨h.1.2.2.1, h.1.2.2.2.2.2.2⟩
  have hRD := h.1.1.1
  obtain ⟨N1, hN1⟩ : ∃ J, J = uM (uM (uM (uM (uM (uM N 1 10 0) 1 12 (ln : Int)) 1 13 60) 1 14 0) 1 15 (-1)) 1 7 0 := ⟨_, rfl⟩
  have hbt := r_beginText (rd := rd) (ru := 7) (M := uM N 1 10 0) (mo := 60)
  rw [show uM N 1 10 0 1 7 = (ln : Int) by simp [uM_at, x1], ← hN1] at hbt
  have f0 : Fr [7, 10, 12, 13, 14, 15] [17] N N1 := by
    rw [hN1]
    exact Fr_1 (Fr_1 (Fr_1 (Fr_1 (Fr_1 (Fr_1 Fr_refl (by decide)) (by decide)) (by decide)) (by decide)) (by decide)) (by decide)
  have n7 : N1 1 7 = 0 := by rw [hN1]; simp [uM_at]
  have n12 : N1 1 12 = (ln : Int) := by rw [hN1]; simp [uM_at]
  have n13 : N1 1 13 = ((60 : Nat) : Int) := by rw [hN1]; simp [uM_at]
  have n14 : N1 1 14 = ((0 : Nat) : Int) := by rw [hN1]; simp [uM_at]
  have n15 : N1 1 15 = -1 := by rw [hN1]; simp [uM_at]
  have n4 : N1 4 = N 4 := f0.2 4 (by decide) (by decide)
  have hRd : ∀ K, Fr [14, 15] [17] N1 K → Rdg K 4 T la := fun K hK => ⟨Or.inl rfl, ln, 60, by rw [hK.1 12 (by decide)]; exact n12, by rw [hK.1 13 (by decide)]; exact n13, hla, x2, by decide, by rw [if_pos rfl]; omega, fun j hj => by rw [hK.2 4 (by decide) (by decide), n4]; exact ⟨(x3 j (by omega)).1.symm, (x3 j (by omega)).2⟩⟩
  have hRD1 : ∀ K, Fr [14, 15] [17] N1 K → RD K r c n := fun K hK => RD_fr3 (RD_fr3 hRD f0 (by decide)) hK (by decide)
  have hyb := fun w => yP_b (T := T) (la := la) (ln := ln) (r := r) (c := c) la 0 w
  have hyv := fun l h1 => yP_v (T := T) (la := la) (ln := ln) (r := r) (c := c) hzr l la 0 h1 (Nat.zero_le _) (by omega)
  have hye := fun l h1 => yP_e (T := T) (la := la) (ln := ln) (r := r) (c := c) l la 0 h1 (Nat.zero_le _) (by omega)
  obtain ⟨g0, hg0⟩ : ∃ g, g = yP T la ln r c la 0 := ⟨_, rfl⟩
  rw [← hg0] at hQ hyb hyv hye
  -- a fault
  have bad : ∀ (K : MM) (w : Nat) (l1 : Option PV), K 1 15 = (w : Int) → g0 = Sum.inl w → Fr [14, 15] [17] N1 K → wpB (Ev d) 214 Q X 44 [some (pR 1), l1, none] [] (kz LR) (PR 4 7) K := by
    intro K w l1 k1 k2 k3
    have hw := hyb w k2 (Nat.zero_le _) (by omega)
    have e2 : EqW (w32 (-1 - (w : Int))) (-1 - (w : Int)) := EqW_i <| w32s (by omega)
    have k7 : K 1 7 = 0 := by rw [k3.1 7 (by decide)]; exact n7
    have hf : Fr [7, 10, 12, 13, 14, 15] [17] N K := Fr_trans f0 (Fr_mono k3 (by simp) (by simp))
    rw [s_214_44]
    refine s_214_45 (Nat.le_of_ble_eq_true rfl) kR_1 (r_wasRight_no k1 d (by omega)) ?_
    simp only [s_214_0, s_214_1, s_214_2, s_214_5, s_214_6, s_214_11, s_214_12, s_214_17, s_214_20, s_214_21, s_214_24, s_214_25, s_214_28, s_214_31, s_214_32, s_214_33, s_214_34, s_214_38, s_214_41, s_214_48, s_214_51, s_214_52, s_214_53, s_214_56, s_214_57, s_214_58, s_214_59, s_214_62, s_214_63, s_214_66, s_214_70, s_214_71, s_214_73, s_214_74, s_214_77, s_214_78, s_214_79, s_214_82, s_214_83, s_214_84, s_214_85, s_214_86, s_214_87, s_214_90, s_214_91, s_214_92, s_214_93, s_214_94, s_214_95, s_214_96, s_214_97, s_214_100, s_214_101, s_214_102, s_214_103, s_214_104, s_214_105, s_214_109, s_214_112, s_214_115, s_214_119, s_214_122, s_214_123, s_214_124, s_214_130, s_214_131, s_214_132, s_214_135, s_214_136, s_214_137, s_214_138, s_214_141, s_214_142, s_214_145, s_214_149, s_214_150, s_214_151, s_214_154, s_214_157, s_214_158, s_214_162, s_214_163, true_and, and_true, sc0, sc1, sc2, sc3, sc4, Option.toList, List.cons_append, List.nil_append, clr, ne_eq, not_false_eq_true, not_true_eq_false, false_and, and_false, true_or, or_true, or_false, false_or, forall_const, Nat.reduceEqDiff, List.length_nil, List.length_cons, Nat.zero_le, Nat.reduceAdd, Nat.reduceLeDiff, false_implies, true_implies, Int.reduceEq, Int.reduceNe, Int.reduceLT, Int.reduceLE, Int.reduceNeg, Int.reduceToNat, Int.toNat_natCast, Nat.reduceLT, and_self, Decidable.not_not, kR_1, kR_2, kR_3, kR_4, kR_5, kR_6, kR_7, kR_8, kR_9, kR_10, kR_11, kR_12, kR_13, kR_14, kR_15, kR_16, kR_17, kR_18, kR_19, kR_20, kR_21, kR_22, kR_23, pR_0, pR_5, pR_6, pR_8, pR_11, pR_16, pR_17, pR_18, pR_21, pR_22, pR_23, pR_24, pR_26, pR_28, pR_29, pR_30, pR_33, pR_34, pR_35, pR_38, pR_41, pR_42, pR_43, k1, (EqW_o e2)]
    refine hQ _ _ _ ⟨⟨4, rfl⟩, fun w' hw' => ?_, fun l hl => (by rw [k2] at hl; cases hl)⟩
    rw [k2] at hw'
    obtain rfl := Sum.inl.inj hw'
    exact ⟨rfl, RelR_tx2 h (TxR_0 hX k7 (hf.2 4 (by decide) (by decide))) hf (by decide) (by decide)⟩
  -- the acts are done
  have good : ∀ (K0 : MM) (l : List (Int × Int × Int)), g0 = Sum.inr l → K0 1 15 = -1 → ¬ K0 1 14 < (ln : Int) → Fr [14, 15] [17] N1 K0 → (∀ j, j < l.length → enY K0 j (l.getD j (0, 0, 0))) → wpB (Ev d) 214 Q X 44 [some (pR 1), some (pI (l.length : Int)), none] [] (kz LR) (PR 4 7) K0 := by
    intro K0 l hgl k1 k2 k3 k4
    have hlen := (hye l hgl).2
    have hva := hyv l hgl
    have hwr := r_wasRight (M := K0) (rd := 4) (ru := 7) k1
    have k12 : K0 1 12 = (ln : Int) := by rw [k3.1 12 (by decide)]; exact n12
    rw [k12, if_neg k2, if_neg k2] at hwr
    have k7 : K0 1 7 = 0 := by rw [k3.1 7 (by decide)]; exact n7
    have fK0 : Fr [7, 10, 12, 13, 14, 15, 20, 25, 31, 32] [2, 9, 10, 11, 12, 14, 16, 17] N K0 := Fr_mono (Fr_trans f0 (Fr_mono k3 (by simp) (by simp))) (by simp) (by simp)
    obtain ⟨K2, hK2⟩ : ∃ J, J = cM K0 2 14 0 0 133 := ⟨_, rfl⟩
    have c14 : ArR K2 14 A := fun j hj => by
      rw [hK2, cM_at, if_pos rfl, if_pos ⟨by omega, by omega⟩, Nat.zero_add, Nat.sub_zero, k3.2 2 (by decide) (by decide), f0.2 2 (by decide) (by decide)]
      exact h.1.2.1 j hj
    have cne : ∀ o, o ≠ 14 → K2 o = K0 o := fun o ho => by rw [hK2]; exact cM_ne ho
    have fK2 : Fr [7, 10, 12, 13, 14, 15, 20, 25, 31, 32] [2, 9, 10, 11, 12, 14, 16, 17] N K2 := by rw [hK2]; exact Fr_c fK0 (by decide) (by decide)
    have a2 : ArR K2 2 A := fun j hj => by
      rw [cne 2 (by decide), k3.2 2 (by decide) (by decide), f0.2 2 (by decide) (by decide)]
      exact h.1.2.1 j hj
    have k27 : K2 1 7 = 0 := by rw [cne 1 (by decide)]; exact k7
    obtain ⟨y, hy⟩ : ∃ y, yrG c z n V B u l 0 A = y := ⟨_, rfl⟩
    have hyf := yrG_f (c := c) (z := z) (n := n) (V := V) (B := B) (u := u) l 0 A
    rw [hy, Nat.zero_add] at hyf
    have fin3 : ∀ (rd2 : Nat) (J : MM), Fr [7, 9, 10, 12, 13, 14, 15, 20, 25, 27, 31, 32] [2, 5, 9, 10, 11, 12, 13, 14, 16, 17] N J → ArR J 2 y.2.2 → SnO B z n y.2.2 → UnR J (if y.1 = 0 then U else psU A U) → J 1 7 = 0 → wpB (Ev d) 214 Q X 130 [some (pR 1), some (pI (l.length : Int)), some (pI (y.1 : Int))] [] (kz LR) (PR rd2 7) J := by
      intro rd2 J jF jA jO jU j7
      have q132 : tdR (uM J 1 9 0) [] y.2.1 2 132 = y.2.2 132 := by unfold tdR; rw [uM_ne (by decide), uM_ne (by decide), uM_ne (by decide)]; exact jA 132 (by decide)
      have tl : wpB (Ev d) 214 Q X 146 [some (pR 1), some (pI (l.length : Int)), some (pI (y.1 : Int))] [pL y.2.1, pR 1] (kz LR) (PR rd2 7) (uM J 1 9 0) := by
        refine s_214_146 (Nat.le_of_ble_eq_true rfl) kR_1 (r_add0 d (by omega)) ?_
        have b132 : (132 : Int) < ((133 : Nat) : Int) := by decide
        simp only [s_214_0, s_214_1, s_214_2, s_214_5, s_214_6, s_214_11, s_214_12, s_214_17, s_214_20, s_214_21, s_214_24, s_214_25, s_214_28, s_214_31, s_214_32, s_214_33, s_214_34, s_214_38, s_214_41, s_214_48, s_214_51, s_214_52, s_214_53, s_214_56, s_214_57, s_214_58, s_214_59, s_214_62, s_214_63, s_214_66, s_214_70, s_214_71, s_214_73, s_214_74, s_214_77, s_214_78, s_214_79, s_214_82, s_214_83, s_214_84, s_214_85, s_214_86, s_214_87, s_214_90, s_214_91, s_214_92, s_214_93, s_214_94, s_214_95, s_214_96, s_214_97, s_214_100, s_214_101, s_214_102, s_214_103, s_214_104, s_214_105, s_214_109, s_214_112, s_214_115, s_214_119, s_214_122, s_214_123, s_214_124, s_214_130, s_214_131, s_214_132, s_214_135, s_214_136, s_214_137, s_214_138, s_214_141, s_214_142, s_214_145, s_214_149, s_214_150, s_214_151, s_214_154, s_214_157, s_214_158, s_214_162, s_214_163, true_and, and_true, sc0, sc1, sc2, sc3, sc4, Option.toList, List.cons_append, List.nil_append, clr, ne_eq, not_false_eq_true, not_true_eq_false, false_and, and_false, true_or, or_true, or_false, false_or, forall_const, Nat.reduceEqDiff, List.length_nil, List.length_cons, Nat.zero_le, Nat.reduceAdd, Nat.reduceLeDiff, false_implies, true_implies, Int.reduceEq, Int.reduceNe, Int.reduceLT, Int.reduceLE, Int.reduceNeg, Int.reduceToNat, Int.toNat_natCast, Nat.reduceLT, and_self, Decidable.not_not, kR_1, kR_2, kR_3, kR_4, kR_5, kR_6, kR_7, kR_8, kR_9, kR_10, kR_11, kR_12, kR_13, kR_14, kR_15, kR_16, kR_17, kR_18, kR_19, kR_20, kR_21, kR_22, kR_23, pR_0, pR_5, pR_6, pR_8, pR_11, pR_16, pR_17, pR_18, pR_21, pR_22, pR_23, pR_24, pR_26, pR_28, pR_29, pR_30, pR_33, pR_34, pR_35, pR_38, pR_41, pR_42, pR_43, q132, b132]
        refine s_214_159 (Nat.le_of_ble_eq_true rfl) kR_1 (r_add1 d (by omega)) ?_
        simp only [s_214_0, s_214_1, s_214_2, s_214_5, s_214_6, s_214_11, s_214_12, s_214_17, s_214_20, s_214_21, s_214_24, s_214_25, s_214_28, s_214_31, s_214_32, s_214_33, s_214_34, s_214_38, s_214_41, s_214_48, s_214_51, s_214_52, s_214_53, s_214_56, s_214_57, s_214_58, s_214_59, s_214_62, s_214_63, s_214_66, s_214_70, s_214_71, s_214_73, s_214_74, s_214_77, s_214_78, s_214_79, s_214_82, s_214_83, s_214_84, s_214_85, s_214_86, s_214_87, s_214_90, s_214_91, s_214_92, s_214_93, s_214_94, s_214_95, s_214_96, s_214_97, s_214_100, s_214_101, s_214_102, s_214_103, s_214_104, s_214_105, s_214_109, s_214_112, s_214_115, s_214_119, s_214_122, s_214_123, s_214_124, s_214_130, s_214_131, s_214_132, s_214_135, s_214_136, s_214_137, s_214_138, s_214_141, s_214_142, s_214_145, s_214_149, s_214_150, s_214_151, s_214_154, s_214_157, s_214_158, s_214_162, s_214_163, true_and, and_true, sc0, sc1, sc2, sc3, sc4, Option.toList, List.cons_append, List.nil_append, clr, ne_eq, not_false_eq_true, not_true_eq_false, false_and, and_false, true_or, or_true, or_false, false_or, forall_const, Nat.reduceEqDiff, List.length_nil, List.length_cons, Nat.zero_le, Nat.reduceAdd, Nat.reduceLeDiff, false_implies, true_implies, Int.reduceEq, Int.reduceNe, Int.reduceLT, Int.reduceLE, Int.reduceNeg, Int.reduceToNat, Int.toNat_natCast, Nat.reduceLT, and_self, Decidable.not_not, kR_1, kR_2, kR_3, kR_4, kR_5, kR_6, kR_7, kR_8, kR_9, kR_10, kR_11, kR_12, kR_13, kR_14, kR_15, kR_16, kR_17, kR_18, kR_19, kR_20, kR_21, kR_22, kR_23, pR_0, pR_5, pR_6, pR_8, pR_11, pR_16, pR_17, pR_18, pR_21, pR_22, pR_23, pR_24, pR_26, pR_28, pR_29, pR_30, pR_33, pR_34, pR_35, pR_38, pR_41, pR_42, pR_43]
        refine hQ _ _ _ ⟨⟨rd2, rfl⟩, fun w hw => (by rw [hgl] at hw; cases hw), fun l' hl' => ?_⟩
        rw [hgl] at hl'
        obtain rfl := Sum.inr.inj hl'
        rw [hy]
        have hFF : Fr [7, 9, 10, 12, 13, 14, 15, 20, 25, 27, 31, 32] [2, 5, 9, 10, 11, 12, 13, 14, 16, 17] N (tdR (tdR (uM J 1 9 0) [] y.2.1) [y.2.1] (y.2.2 132)) := by
          unfold tdR
          exact Fr_1 (Fr_o (Fr_1 (Fr_o (Fr_1 jF (by decide)) (by decide) (by decide)) (by decide)) (by decide) (by decide)) (by decide)
        have hFJ : Fr [9] [5] J (tdR (tdR (uM J 1 9 0) [] y.2.1) [y.2.1] (y.2.2 132)) := by
          unfold tdR
          exact Fr_1 (Fr_o (Fr_1 (Fr_o (Fr_1 Fr_refl (by decide)) (by decide) (by decide)) (by decide)) (by decide) (by decide)) (by decide)
        refine ⟨rfl, RelR_mk0 h (fun j hj => ?_) jO (UnR_fr jU hFJ (by decide) (by decide)) (KpR_t (KpR_fr h.2.2.1 hFF (by decide) (by decide))) (TxR_0 hX (by rw [hFJ.1 7 (by decide)]; exact j7) (hFF.2 4 (by decide) (by decide))) ToR_2 hFF (by decide) (by decide)⟩
        rw [hFJ.2 2 (by decide) (by decide)]; exact jA j hj
      have hy2 := hyf.2.2
      by_cases c5 : y.1 < l.length
      · rw [if_pos c5] at hy2
        rw [hy2] at tl
        have c6 : ¬ (l.length : Int) ≤ (y.1 : Int) := by omega
        simp only [s_214_0, s_214_1, s_214_2, s_214_5, s_214_6, s_214_11, s_214_12, s_214_17, s_214_20, s_214_21, s_214_24, s_214_25, s_214_28, s_214_31, s_214_32, s_214_33, s_214_34, s_214_38, s_214_41, s_214_48, s_214_51, s_214_52, s_214_53, s_214_56, s_214_57, s_214_58, s_214_59, s_214_62, s_214_63, s_214_66, s_214_70, s_214_71, s_214_73, s_214_74, s_214_77, s_214_78, s_214_79, s_214_82, s_214_83, s_214_84, s_214_85, s_214_86, s_214_87, s_214_90, s_214_91, s_214_92, s_214_93, s_214_94, s_214_95, s_214_96, s_214_97, s_214_100, s_214_101, s_214_102, s_214_103, s_214_104, s_214_105, s_214_109, s_214_112, s_214_115, s_214_119, s_214_122, s_214_123, s_214_124, s_214_130, s_214_131, s_214_132, s_214_135, s_214_136, s_214_137, s_214_138, s_214_141, s_214_142, s_214_145, s_214_149, s_214_150, s_214_151, s_214_154, s_214_157, s_214_158, s_214_162, s_214_163, true_and, and_true, sc0, sc1, sc2, sc3, sc4, Option.toList, List.cons_append, List.nil_append, clr, ne_eq, not_false_eq_true, not_true_eq_false, false_and, and_false, true_or, or_true, or_false, false_or, forall_const, Nat.reduceEqDiff, List.length_nil, List.length_cons, Nat.zero_le, Nat.reduceAdd, Nat.reduceLeDiff, false_implies, true_implies, Int.reduceEq, Int.reduceNe, Int.reduceLT, Int.reduceLE, Int.reduceNeg, Int.reduceToNat, Int.toNat_natCast, Nat.reduceLT, and_self, Decidable.not_not, kR_1, kR_2, kR_3, kR_4, kR_5, kR_6, kR_7, kR_8, kR_9, kR_10, kR_11, kR_12, kR_13, kR_14, kR_15, kR_16, kR_17, kR_18, kR_19, kR_20, kR_21, kR_22, kR_23, pR_0, pR_5, pR_6, pR_8, pR_11, pR_16, pR_17, pR_18, pR_21, pR_22, pR_23, pR_24, pR_26, pR_28, pR_29, pR_30, pR_33, pR_34, pR_35, pR_38, pR_41, pR_42, pR_43, c6]
        exact tl
      · rw [if_neg c5] at hy2
        rw [hy2] at tl
        have c6 : (l.length : Int) ≤ (y.1 : Int) := by omega
        simp only [s_214_0, s_214_1, s_214_2, s_214_5, s_214_6, s_214_11, s_214_12, s_214_17, s_214_20, s_214_21, s_214_24, s_214_25, s_214_28, s_214_31, s_214_32, s_214_33, s_214_34, s_214_38, s_214_41, s_214_48, s_214_51, s_214_52, s_214_53, s_214_56, s_214_57, s_214_58, s_214_59, s_214_62, s_214_63, s_214_66, s_214_70, s_214_71, s_214_73, s_214_74, s_214_77, s_214_78, s_214_79, s_214_82, s_214_83, s_214_84, s_214_85, s_214_86, s_214_87, s_214_90, s_214_91, s_214_92, s_214_93, s_214_94, s_214_95, s_214_96, s_214_97, s_214_100, s_214_101, s_214_102, s_214_103, s_214_104, s_214_105, s_214_109, s_214_112, s_214_115, s_214_119, s_214_122, s_214_123, s_214_124, s_214_130, s_214_131, s_214_132, s_214_135, s_214_136, s_214_137, s_214_138, s_214_141, s_214_142, s_214_145, s_214_149, s_214_150, s_214_151, s_214_154, s_214_157, s_214_158, s_214_162, s_214_163, true_and, and_true, sc0, sc1, sc2, sc3, sc4, Option.toList, List.cons_append, List.nil_append, clr, ne_eq, not_false_eq_true, not_true_eq_false, false_and, and_false, true_or, or_true, or_false, false_or, forall_const, Nat.reduceEqDiff, List.length_nil, List.length_cons, Nat.zero_le, Nat.reduceAdd, Nat.reduceLeDiff, false_implies, true_implies, Int.reduceEq, Int.reduceNe, Int.reduceLT, Int.reduceLE, Int.reduceNeg, Int.reduceToNat, Int.toNat_natCast, Nat.reduceLT, and_self, Decidable.not_not, kR_1, kR_2, kR_3, kR_4, kR_5, kR_6, kR_7, kR_8, kR_9, kR_10, kR_11, kR_12, kR_13, kR_14, kR_15, kR_16, kR_17, kR_18, kR_19, kR_20, kR_21, kR_22, kR_23, pR_0, pR_5, pR_6, pR_8, pR_11, pR_16, pR_17, pR_18, pR_21, pR_22, pR_23, pR_24, pR_26, pR_28, pR_29, pR_30, pR_33, pR_34, pR_35, pR_38, pR_41, pR_42, pR_43, c6]
        exact tl
    have fin2 : ∀ (rd2 : Nat) (J : MM), SnO B z n y.2.2 → ArR J 2 y.2.2 → Fr (31 :: 32 :: SPl) (16 :: 2 :: TPl) K2 J → wpB (Ev d) 214 Q X 118 [some (pR 1), some (pI (l.length : Int)), some (pI (y.1 : Int))] [] (kz LR) (PR rd2 7) J := by
      intro rd2 J jO jA jF
      have fJ : Fr [7, 10, 12, 13, 14, 15, 20, 25, 31, 32] [2, 9, 10, 11, 12, 14, 16, 17] N J := Fr_trans fK2 (Fr_mono jF (by simp [SPl]) (by simp [TPl]))
      have j7 : J 1 7 = 0 := by rw [jF.1 7 (by decide)]; exact k27
      by_cases k0 : y.1 = 0
      · have c3 : ((y.1 : Nat) : Int) ≤ 0 := by omega
        have := fin3 rd2 J (Fr_mono fJ (by simp) (by simp)) jA jO (by rw [if_pos k0]; exact UnR_fr h.2.1 fJ (by decide) (by decide)) j7
        rw [s_214_118]
        simp only [s_214_0, s_214_1, s_214_2, s_214_5, s_214_6, s_214_11, s_214_12, s_214_17, s_214_20, s_214_21, s_214_24, s_214_25, s_214_28, s_214_31, s_214_32, s_214_33, s_214_34, s_214_38, s_214_41, s_214_48, s_214_51, s_214_52, s_214_53, s_214_56, s_214_57, s_214_58, s_214_59, s_214_62, s_214_63, s_214_66, s_214_70, s_214_71, s_214_73, s_214_74, s_214_77, s_214_78, s_214_79, s_214_82, s_214_83, s_214_84, s_214_85, s_214_86, s_214_87, s_214_90, s_214_91, s_214_92, s_214_93, s_214_94, s_214_95, s_214_96, s_214_97, s_214_100, s_214_101, s_214_102, s_214_103, s_214_104, s_214_105, s_214_109, s_214_112, s_214_115, s_214_119, s_214_122, s_214_123, s_214_124, s_214_131, s_214_132, s_214_135, s_214_136, s_214_137, s_214_138, s_214_141, s_214_142, s_214_145, s_214_149, s_214_150, s_214_151, s_214_154, s_214_157, s_214_158, s_214_162, s_214_163, true_and, and_true, sc0, sc1, sc2, sc3, sc4, Option.toList, List.cons_append, List.nil_append, clr, ne_eq, not_false_eq_true, not_true_eq_false, false_and, and_false, true_or, or_true, or_false, false_or, forall_const, Nat.reduceEqDiff, List.length_nil, List.length_cons, Nat.zero_le, Nat.reduceAdd, Nat.reduceLeDiff, false_implies, true_implies, Int.reduceEq, Int.reduceNe, Int.reduceLT, Int.reduceLE, Int.reduceNeg, Int.reduceToNat, Int.toNat_natCast, Nat.reduceLT, and_self, Decidable.not_not, kR_1, kR_2, kR_3, kR_4, kR_5, kR_6, kR_7, kR_8, kR_9, kR_10, kR_11, kR_12, kR_13, kR_14, kR_15, kR_16, kR_17, kR_18, kR_19, kR_20, kR_21, kR_22, kR_23, pR_0, pR_5, pR_6, pR_8, pR_11, pR_16, pR_17, pR_18, pR_21, pR_22, pR_23, pR_24, pR_26, pR_28, pR_29, pR_30, pR_33, pR_34, pR_35, pR_38, pR_41, pR_42, pR_43, c3]
        exact this
      · have c3 : ¬ ((y.1 : Nat) : Int) ≤ 0 := by omega
        have j27 : J 1 27 = (U.length : Int) := by rw [fJ.1 27 (by decide)]; exact u1
        obtain ⟨v, P', J2, hE, rfl, rfl, g1⟩ := r_remember (rd := rd2) (ru := 7) (x := 14) (Or.inr rfl) j27 u2 d (by omega)
        have hps := UnR_ps (A := A) (x := 14) g1 (fun k hk i hi => by rw [fJ.2 13 (by decide) (by decide)]; exact u3 k hk i hi) u2 (fun i hi => by rw [jF.2 14 (by decide) (by decide)]; exact c14 i hi)
        have := fin3 rd2 J2 (Fr_trans (Fr_mono fJ (by simp) (by simp)) (Fr_mono g1.1 (by simp) (by simp))) (fun j hj => by rw [g1.1.2 2 (by decide) (by decide)]; exact jA j hj) jO (by rw [if_neg k0]; exact hps) (by rw [g1.1.1 7 (by decide)]; exact j7)
        rw [s_214_118]
        simp only [s_214_0, s_214_1, s_214_2, s_214_5, s_214_6, s_214_11, s_214_12, s_214_17, s_214_20, s_214_21, s_214_24, s_214_25, s_214_28, s_214_31, s_214_32, s_214_33, s_214_34, s_214_38, s_214_41, s_214_48, s_214_51, s_214_52, s_214_53, s_214_56, s_214_57, s_214_58, s_214_59, s_214_62, s_214_63, s_214_66, s_214_70, s_214_71, s_214_73, s_214_74, s_214_77, s_214_78, s_214_79, s_214_82, s_214_83, s_214_84, s_214_85, s_214_86, s_214_87, s_214_90, s_214_91, s_214_92, s_214_93, s_214_94, s_214_95, s_214_96, s_214_97, s_214_100, s_214_101, s_214_102, s_214_103, s_214_104, s_214_105, s_214_109, s_214_112, s_214_115, s_214_119, s_214_122, s_214_123, s_214_124, s_214_131, s_214_132, s_214_135, s_214_136, s_214_137, s_214_138, s_214_141, s_214_142, s_214_145, s_214_149, s_214_150, s_214_151, s_214_154, s_214_157, s_214_158, s_214_162, s_214_163, true_and, and_true, sc0, sc1, sc2, sc3, sc4, Option.toList, List.cons_append, List.nil_append, clr, ne_eq, not_false_eq_true, not_true_eq_false, false_and, and_false, true_or, or_true, or_false, false_or, forall_const, Nat.reduceEqDiff, List.length_nil, List.length_cons, Nat.zero_le, Nat.reduceAdd, Nat.reduceLeDiff, false_implies, true_implies, Int.reduceEq, Int.reduceNe, Int.reduceLT, Int.reduceLE, Int.reduceNeg, Int.reduceToNat, Int.toNat_natCast, Nat.reduceLT, and_self, Decidable.not_not, kR_1, kR_2, kR_3, kR_4, kR_5, kR_6, kR_7, kR_8, kR_9, kR_10, kR_11, kR_12, kR_13, kR_14, kR_15, kR_16, kR_17, kR_18, kR_19, kR_20, kR_21, kR_22, kR_23, pR_0, pR_5, pR_6, pR_8, pR_11, pR_16, pR_17, pR_18, pR_21, pR_22, pR_23, pR_24, pR_26, pR_28, pR_29, pR_30, pR_33, pR_34, pR_35, pR_38, pR_41, pR_42, pR_43, c3]
        refine s_214_127 (Nat.le_of_ble_eq_true rfl) kR_1 hE ?_
        simp only [s_214_0, s_214_1, s_214_2, s_214_5, s_214_6, s_214_11, s_214_12, s_214_17, s_214_20, s_214_21, s_214_24, s_214_25, s_214_28, s_214_31, s_214_32, s_214_33, s_214_34, s_214_38, s_214_41, s_214_48, s_214_51, s_214_52, s_214_53, s_214_56, s_214_57, s_214_58, s_214_59, s_214_62, s_214_63, s_214_66, s_214_70, s_214_71, s_214_73, s_214_74, s_214_77, s_214_78, s_214_79, s_214_82, s_214_83, s_214_84, s_214_85, s_214_86, s_214_87, s_214_90, s_214_91, s_214_92, s_214_93, s_214_94, s_214_95, s_214_96, s_214_97, s_214_100, s_214_101, s_214_102, s_214_103, s_214_104, s_214_105, s_214_109, s_214_112, s_214_115, s_214_119, s_214_122, s_214_123, s_214_124, s_214_131, s_214_132, s_214_135, s_214_136, s_214_137, s_214_138, s_214_141, s_214_142, s_214_145, s_214_149, s_214_150, s_214_151, s_214_154, s_214_157, s_214_158, s_214_162, s_214_163, true_and, and_true, sc0, sc1, sc2, sc3, sc4, Option.toList, List.cons_append, List.nil_append, clr, ne_eq, not_false_eq_true, not_true_eq_false, false_and, and_false, true_or, or_true, or_false, false_or, forall_const, Nat.reduceEqDiff, List.length_nil, List.length_cons, Nat.zero_le, Nat.reduceAdd, Nat.reduceLeDiff, false_implies, true_implies, Int.reduceEq, Int.reduceNe, Int.reduceLT, Int.reduceLE, Int.reduceNeg, Int.reduceToNat, Int.toNat_natCast, Nat.reduceLT, and_self, Decidable.not_not, kR_1, kR_2, kR_3, kR_4, kR_5, kR_6, kR_7, kR_8, kR_9, kR_10, kR_11, kR_12, kR_13, kR_14, kR_15, kR_16, kR_17, kR_18, kR_19, kR_20, kR_21, kR_22, kR_23, pR_0, pR_5, pR_6, pR_8, pR_11, pR_16, pR_17, pR_18, pR_21, pR_22, pR_23, pR_24, pR_26, pR_28, pR_29, pR_30, pR_33, pR_34, pR_35, pR_38, pR_41, pR_42, pR_43]
        exact this
    have m2 : ∀ (l' : List (Int × Int × Int)) (i rd1 : Nat) (A1 : Nat → Int) (J : MM), i + l'.length = l.length → SnO B z n A1 → ArR J 2 A1 → Fr (31 :: 32 :: SPl) (16 :: 2 :: TPl) K2 J → (∀ j, j < l'.length → acV z (l'.getD j (0, 0, 0)) ∧ enY K2 (i + j) (l'.getD j (0, 0, 0))) → yrG c z n V B u l' i A1 = y → wpB (Ev d) 214 Q X 72 [some (pR 1), some (pI (l.length : Int)), some (pI (i : Int))] [] (kz LR) (PR rd1 7) J := by
      intro l'
      induction l' with
      | nil =>
        intro i rd1 A1 J h1 jO jA jF h5 h6
        rw [show yrG c z n V B u [] i A1 = (i, 0, A1) from rfl] at h6
        have hil : i = l.length := by simpa using h1
        subst h6
        dsimp only at fin2
        have := fin2 rd1 J jO jA jF
        rw [hil] at this ⊢
        rw [s_214_72]
        simp only [s_214_0, s_214_1, s_214_2, s_214_5, s_214_6, s_214_11, s_214_12, s_214_17, s_214_20, s_214_21, s_214_24, s_214_25, s_214_28, s_214_31, s_214_32, s_214_33, s_214_34, s_214_38, s_214_41, s_214_48, s_214_51, s_214_52, s_214_53, s_214_56, s_214_57, s_214_58, s_214_59, s_214_62, s_214_63, s_214_66, s_214_70, s_214_71, s_214_73, s_214_74, s_214_77, s_214_78, s_214_79, s_214_82, s_214_83, s_214_84, s_214_85, s_214_86, s_214_87, s_214_90, s_214_91, s_214_92, s_214_93, s_214_94, s_214_95, s_214_96, s_214_97, s_214_100, s_214_101, s_214_102, s_214_103, s_214_104, s_214_105, s_214_109, s_214_112, s_214_115, s_214_119, s_214_122, s_214_123, s_214_124, s_214_130, s_214_131, s_214_132, s_214_135, s_214_136, s_214_137, s_214_138, s_214_141, s_214_142, s_214_145, s_214_149, s_214_150, s_214_151, s_214_154, s_214_157, s_214_158, s_214_162, s_214_163, true_and, and_true, sc0, sc1, sc2, sc3, sc4, Option.toList, List.cons_append, List.nil_append, clr, ne_eq, not_false_eq_true, not_true_eq_false, false_and, and_false, true_or, or_true, or_false, false_or, forall_const, Nat.reduceEqDiff, List.length_nil, List.length_cons, Nat.zero_le, Nat.reduceAdd, Nat.reduceLeDiff, false_implies, true_implies, Int.reduceEq, Int.reduceNe, Int.reduceLT, Int.reduceLE, Int.reduceNeg, Int.reduceToNat, Int.toNat_natCast, Nat.reduceLT, and_self, Decidable.not_not, kR_1, kR_2, kR_3, kR_4, kR_5, kR_6, kR_7, kR_8, kR_9, kR_10, kR_11, kR_12, kR_13, kR_14, kR_15, kR_16, kR_17, kR_18, kR_19, kR_20, kR_21, kR_22, kR_23, pR_0, pR_5, pR_6, pR_8, pR_11, pR_16, pR_17, pR_18, pR_21, pR_22, pR_23, pR_24, pR_26, pR_28, pR_29, pR_30, pR_33, pR_34, pR_35, pR_38, pR_41, pR_42, pR_43, Int.le_refl]
        exact this
      | cons x l' ih =>
        intro i rd1 A1 J h1 jO jA jF h5 h6
        rw [List.length_cons] at h1
        obtain ⟨hv, en1, en2, en3⟩ := h5 0 (by simp)
        rw [show (x :: l').getD 0 (0, 0, 0) = x from rfl] at hv en1 en2 en3
        rw [Nat.add_zero] at en1 en2 en3
        rw [show yrG c z n V B u (x :: l') i A1 = (acG c z n V B u x A1).elim (i, 1, A1) (fun A' => yrG c z n V B u l' (i + 1) A') from rfl] at h6
        have j17 : J 17 = K2 17 := jF.2 17 (by decide) (by decide)
        have v1 : J 17 (3 * i) = x.1 := by rw [j17]; exact en1
        have v2 : J 17 (3 * i + 1) = x.2.1 := by rw [j17]; exact en2
        obtain ⟨b3, hb3⟩ : ∃ b3, J 17 (3 * i + 2) = b3 := ⟨_, rfl⟩
        have fJ : Fr [7, 10, 12, 13, 14, 15, 20, 25, 31, 32] [2, 9, 10, 11, 12, 14, 16, 17] N J := Fr_trans fK2 (Fr_mono jF (by simp [SPl]) (by simp [TPl]))
        have hW : WdR J 7 r c z n A1 B V u := WdR_ac h.1 jA jO fJ (by decide) (by decide)
        obtain ⟨v, P', J2, hE, ⟨rd2, rfl⟩, e1, e2, e3⟩ := r_act (rd := rd1) (x := x) (b3 := b3) hW hv (fun w1 w2 => by rw [← hb3, j17]; exact en3 w1 w2) d (by omega)
        have g0 : ¬ (l.length : Int) ≤ (i : Int) := by omega
        have w3 := EqW_i (show w32 (3 * (i : Int)) = ((3 * i : Nat) : Int) by rw [Int.natCast_mul]; exact w32s (by omega))
        have w31 := EqW_i (show w32 (((3 * i : Nat) : Int) + 1) = ((3 * i + 1 : Nat) : Int) by rw [w32s (by omega)]; rfl)
        have w32' := EqW_i (show w32 (((3 * i : Nat) : Int) + 2) = ((3 * i + 2 : Nat) : Int) by rw [w32s (by omega)]; rfl)
        have bi0 : (0 : Int) ≤ ((3 * i : Nat) : Int) ∧ ((3 * i : Nat) : Int) < ((240 : Nat) : Int) := by omega
        have bi1 : (0 : Int) ≤ ((3 * i + 1 : Nat) : Int) ∧ ((3 * i + 1 : Nat) : Int) < ((240 : Nat) : Int) := by omega
        have bi2 : (0 : Int) ≤ ((3 * i + 2 : Nat) : Int) ∧ ((3 * i + 2 : Nat) : Int) < ((240 : Nat) : Int) := by omega
        have ei := EqW_i (w32n (show i < 1000000 by omega))
        rw [s_214_72]
        simp only [s_214_0, s_214_1, s_214_2, s_214_5, s_214_6, s_214_11, s_214_12, s_214_17, s_214_20, s_214_21, s_214_24, s_214_25, s_214_28, s_214_31, s_214_32, s_214_33, s_214_34, s_214_38, s_214_41, s_214_48, s_214_51, s_214_52, s_214_53, s_214_56, s_214_57, s_214_58, s_214_59, s_214_62, s_214_63, s_214_66, s_214_70, s_214_71, s_214_73, s_214_74, s_214_77, s_214_78, s_214_79, s_214_82, s_214_83, s_214_84, s_214_85, s_214_86, s_214_87, s_214_90, s_214_91, s_214_92, s_214_93, s_214_94, s_214_95, s_214_96, s_214_97, s_214_100, s_214_101, s_214_102, s_214_103, s_214_104, s_214_105, s_214_109, s_214_112, s_214_115, s_214_119, s_214_122, s_214_123, s_214_124, s_214_130, s_214_131, s_214_132, s_214_135, s_214_136, s_214_137, s_214_138, s_214_141, s_214_142, s_214_145, s_214_149, s_214_150, s_214_151, s_214_154, s_214_157, s_214_158, s_214_162, s_214_163, true_and, and_true, sc0, sc1, sc2, sc3, sc4, Option.toList, List.cons_append, List.nil_append, clr, ne_eq, not_false_eq_true, not_true_eq_false, false_and, and_false, true_or, or_true, or_false, false_or, forall_const, Nat.reduceEqDiff, List.length_nil, List.length_cons, Nat.zero_le, Nat.reduceAdd, Nat.reduceLeDiff, false_implies, true_implies, Int.reduceEq, Int.reduceNe, Int.reduceLT, Int.reduceLE, Int.reduceNeg, Int.reduceToNat, Int.toNat_natCast, Nat.reduceLT, and_self, Decidable.not_not, kR_1, kR_2, kR_3, kR_4, kR_5, kR_6, kR_7, kR_8, kR_9, kR_10, kR_11, kR_12, kR_13, kR_14, kR_15, kR_16, kR_17, kR_18, kR_19, kR_20, kR_21, kR_22, kR_23, pR_0, pR_5, pR_6, pR_8, pR_11, pR_16, pR_17, pR_18, pR_21, pR_22, pR_23, pR_24, pR_26, pR_28, pR_29, pR_30, pR_33, pR_34, pR_35, pR_38, pR_41, pR_42, pR_43, g0, EqW_o w3, EqW_o w31, EqW_o w32', bi0, bi1, bi2, v1, v2, hb3]
        refine s_214_106 (Nat.le_of_ble_eq_true rfl) kR_1 hE ?_
        cases hg2 : acG c z n V B u x A1 with
        | none =>
          obtain ⟨rfl, q2⟩ := e2 hg2
          rw [hg2] at h6
          have h6' : (i, 1, A1) = y := h6
          subst h6'
          dsimp only at fin2
          have := fin2 rd2 J2 jO q2 (Fr_trans jF e1)
          simp only [s_214_0, s_214_1, s_214_2, s_214_5, s_214_6, s_214_11, s_214_12, s_214_17, s_214_20, s_214_21, s_214_24, s_214_25, s_214_28, s_214_31, s_214_32, s_214_33, s_214_34, s_214_38, s_214_41, s_214_48, s_214_51, s_214_52, s_214_53, s_214_56, s_214_57, s_214_58, s_214_59, s_214_62, s_214_63, s_214_66, s_214_70, s_214_71, s_214_73, s_214_74, s_214_77, s_214_78, s_214_79, s_214_82, s_214_83, s_214_84, s_214_85, s_214_86, s_214_87, s_214_90, s_214_91, s_214_92, s_214_93, s_214_94, s_214_95, s_214_96, s_214_97, s_214_100, s_214_101, s_214_102, s_214_103, s_214_104, s_214_105, s_214_109, s_214_112, s_214_115, s_214_119, s_214_122, s_214_123, s_214_124, s_214_130, s_214_131, s_214_132, s_214_135, s_214_136, s_214_137, s_214_138, s_214_141, s_214_142, s_214_145, s_214_149, s_214_150, s_214_151, s_214_154, s_214_157, s_214_158, s_214_162, s_214_163, true_and, and_true, sc0, sc1, sc2, sc3, sc4, Option.toList, List.cons_append, List.nil_append, clr, ne_eq, not_false_eq_true, not_true_eq_false, false_and, and_false, true_or, or_true, or_false, false_or, forall_const, Nat.reduceEqDiff, List.length_nil, List.length_cons, Nat.zero_le, Nat.reduceAdd, Nat.reduceLeDiff, false_implies, true_implies, Int.reduceEq, Int.reduceNe, Int.reduceLT, Int.reduceLE, Int.reduceNeg, Int.reduceToNat, Int.toNat_natCast, Nat.reduceLT, and_self, Decidable.not_not, kR_1, kR_2, kR_3, kR_4, kR_5, kR_6, kR_7, kR_8, kR_9, kR_10, kR_11, kR_12, kR_13, kR_14, kR_15, kR_16, kR_17, kR_18, kR_19, kR_20, kR_21, kR_22, kR_23, pR_0, pR_5, pR_6, pR_8, pR_11, pR_16, pR_17, pR_18, pR_21, pR_22, pR_23, pR_24, pR_26, pR_28, pR_29, pR_30, pR_33, pR_34, pR_35, pR_38, pR_41, pR_42, pR_43]
          exact this
        | some A2 =>
          obtain ⟨rfl, q2⟩ := e3 A2 hg2
          rw [hg2] at h6
          have h6' : yrG c z n V B u l' (i + 1) A2 = y := h6
          have hO2 := SnO_acG jO hz.2 hv hg2
          have := ih (i + 1) rd2 A2 J2 (by omega) hO2 q2 (Fr_trans jF e1) (fun j hj => by
            have := h5 (j + 1) (by simpa using hj)
            rw [show i + 1 + j = i + (j + 1) by omega]; exact this) h6'
          simp only [s_214_0, s_214_1, s_214_2, s_214_5, s_214_6, s_214_11, s_214_12, s_214_17, s_214_20, s_214_21, s_214_24, s_214_25, s_214_28, s_214_31, s_214_32, s_214_33, s_214_34, s_214_38, s_214_41, s_214_48, s_214_51, s_214_52, s_214_53, s_214_56, s_214_57, s_214_58, s_214_59, s_214_62, s_214_63, s_214_66, s_214_70, s_214_71, s_214_73, s_214_74, s_214_77, s_214_78, s_214_79, s_214_82, s_214_83, s_214_84, s_214_85, s_214_86, s_214_87, s_214_90, s_214_91, s_214_92, s_214_93, s_214_94, s_214_95, s_214_96, s_214_97, s_214_100, s_214_101, s_214_102, s_214_103, s_214_104, s_214_105, s_214_109, s_214_112, s_214_115, s_214_119, s_214_122, s_214_123, s_214_124, s_214_130, s_214_131, s_214_132, s_214_135, s_214_136, s_214_137, s_214_138, s_214_141, s_214_142, s_214_145, s_214_149, s_214_150, s_214_151, s_214_154, s_214_157, s_214_158, s_214_162, s_214_163, true_and, and_true, sc0, sc1, sc2, sc3, sc4, Option.toList, List.cons_append, List.nil_append, clr, ne_eq, not_false_eq_true, not_true_eq_false, false_and, and_false, true_or, or_true, or_false, false_or, forall_const, Nat.reduceEqDiff, List.length_nil, List.length_cons, Nat.zero_le, Nat.reduceAdd, Nat.reduceLeDiff, false_implies, true_implies, Int.reduceEq, Int.reduceNe, Int.reduceLT, Int.reduceLE, Int.reduceNeg, Int.reduceToNat, Int.toNat_natCast, Nat.reduceLT, and_self, Decidable.not_not, kR_1, kR_2, kR_3, kR_4, kR_5, kR_6, kR_7, kR_8, kR_9, kR_10, kR_11, kR_12, kR_13, kR_14, kR_15, kR_16, kR_17, kR_18, kR_19, kR_20, kR_21, kR_22, kR_23, pR_0, pR_5, pR_6, pR_8, pR_11, pR_16, pR_17, pR_18, pR_21, pR_22, pR_23, pR_24, pR_26, pR_28, pR_29, pR_30, pR_33, pR_34, pR_35, pR_38, pR_41, pR_42, pR_43, EqW_o ei]
          exact this
    have := m2 l 0 4 A K2 (by omega) hSO a2 Fr_refl (fun j hj => ⟨hva j hj, by
      rw [Nat.zero_add]
      have := k4 j hj
      unfold enY at this ⊢
      rw [cne 17 (by decide)]; exact this⟩) hy
    rw [s_214_44]
    refine s_214_45 (Nat.le_of_ble_eq_true rfl) kR_1 (hwr d (by omega)) ?_
    simp only [s_214_0, s_214_1, s_214_2, s_214_5, s_214_6, s_214_11, s_214_12, s_214_17, s_214_20, s_214_21, s_214_24, s_214_25, s_214_28, s_214_31, s_214_32, s_214_33, s_214_34, s_214_38, s_214_41, s_214_48, s_214_51, s_214_52, s_214_53, s_214_56, s_214_57, s_214_58, s_214_59, s_214_62, s_214_63, s_214_66, s_214_70, s_214_71, s_214_73, s_214_74, s_214_77, s_214_78, s_214_79, s_214_82, s_214_83, s_214_84, s_214_85, s_214_86, s_214_87, s_214_90, s_214_91, s_214_92, s_214_93, s_214_94, s_214_95, s_214_96, s_214_97, s_214_100, s_214_101, s_214_102, s_214_103, s_214_104, s_214_105, s_214_109, s_214_112, s_214_115, s_214_119, s_214_122, s_214_123, s_214_124, s_214_130, s_214_131, s_214_132, s_214_135, s_214_136, s_214_137, s_214_138, s_214_141, s_214_142, s_214_145, s_214_149, s_214_150, s_214_151, s_214_154, s_214_157, s_214_158, s_214_162, s_214_163, true_and, and_true, sc0, sc1, sc2, sc3, sc4, Option.toList, List.cons_append, List.nil_append, clr, ne_eq, not_false_eq_true, not_true_eq_false, false_and, and_false, true_or, or_true, or_false, false_or, forall_const, Nat.reduceEqDiff, List.length_nil, List.length_cons, Nat.zero_le, Nat.reduceAdd, Nat.reduceLeDiff, false_implies, true_implies, Int.reduceEq, Int.reduceNe, Int.reduceLT, Int.reduceLE, Int.reduceNeg, Int.reduceToNat, Int.toNat_natCast, Nat.reduceLT, and_self, Decidable.not_not, kR_1, kR_2, kR_3, kR_4, kR_5, kR_6, kR_7, kR_8, kR_9, kR_10, kR_11, kR_12, kR_13, kR_14, kR_15, kR_16, kR_17, kR_18, kR_19, kR_20, kR_21, kR_22, kR_23, pR_0, pR_5, pR_6, pR_8, pR_11, pR_16, pR_17, pR_18, pR_21, pR_22, pR_23, pR_24, pR_26, pR_28, pR_29, pR_30, pR_33, pR_34, pR_35, pR_38, pR_41, pR_42, pR_43]
    refine s_214_67 (Nat.le_of_ble_eq_true rfl) (r_lay (y := 14) (k := 0) (m := 133) kR_2 kR_14 (by decide) (by decide) (by decide) d (by omega)) ?_
    rw [← hK2]
    simp only [s_214_0, s_214_1, s_214_2, s_214_5, s_214_6, s_214_11, s_214_12, s_214_17, s_214_20, s_214_21, s_214_24, s_214_25, s_214_28, s_214_31, s_214_32, s_214_33, s_214_34, s_214_38, s_214_41, s_214_48, s_214_51, s_214_52, s_214_53, s_214_56, s_214_57, s_214_58, s_214_59, s_214_62, s_214_63, s_214_66, s_214_70, s_214_71, s_214_73, s_214_74, s_214_77, s_214_78, s_214_79, s_214_82, s_214_83, s_214_84, s_214_85, s_214_86, s_214_87, s_214_90, s_214_91, s_214_92, s_214_93, s_214_94, s_214_95, s_214_96, s_214_97, s_214_100, s_214_101, s_214_102, s_214_103, s_214_104, s_214_105, s_214_109, s_214_112, s_214_115, s_214_119, s_214_122, s_214_123, s_214_124, s_214_130, s_214_131, s_214_132, s_214_135, s_214_136, s_214_137, s_214_138, s_214_141, s_214_142, s_214_145, s_214_149, s_214_150, s_214_151, s_214_154, s_214_157, s_214_158, s_214_162, s_214_163, true_and, and_true, sc0, sc1, sc2, sc3, sc4, Option.toList, List.cons_append, List.nil_append, clr, ne_eq, not_false_eq_true, not_true_eq_false, false_and, and_false, true_or, or_true, or_false, false_or, forall_const, Nat.reduceEqDiff, List.length_nil, List.length_cons, Nat.zero_le, Nat.reduceAdd, Nat.reduceLeDiff, false_implies, true_implies, Int.reduceEq, Int.reduceNe, Int.reduceLT, Int.reduceLE, Int.reduceNeg, Int.reduceToNat, Int.toNat_natCast, Nat.reduceLT, and_self, Decidable.not_not, kR_1, kR_2, kR_3, kR_4, kR_5, kR_6, kR_7, kR_8, kR_9, kR_10, kR_11, kR_12, kR_13, kR_14, kR_15, kR_16, kR_17, kR_18, kR_19, kR_20, kR_21, kR_22, kR_23, pR_0, pR_5, pR_6, pR_8, pR_11, pR_16, pR_17, pR_18, pR_21, pR_22, pR_23, pR_24, pR_26, pR_28, pR_29, pR_30, pR_33, pR_34, pR_35, pR_38, pR_41, pR_42, pR_43]
    exact this
  -- the end of the text
  have edge : ∀ (i : Nat) (K : MM), i ≤ la → K 1 15 = -1 → K 1 14 = (la : Int) → Fr [14, 15] [17] N1 K → (∀ w, (if la < ln then Sum.inl la else Sum.inr [] : Nat ⊕ List (Int × Int × Int)) = Sum.inl w → g0 = Sum.inl w) → (∀ l, (if la < ln then Sum.inl la else Sum.inr [] : Nat ⊕ List (Int × Int × Int)) = Sum.inr l → ∀ K', K' 1 15 = -1 → ¬ K' 1 14 < (ln : Int) → Fr [14, 15] [17] N1 K' → (∀ j, j < 3 * i → K' 17 j = K 17 j) → (∀ j, j < l.length → enY K' (i + j) (l.getD j (0, 0, 0))) → wpB (Ev d) 214 Q X 44 [some (pR 1), some (pI ((i + l.length : Nat) : Int)), none] [] (kz LR) (PR 4 7) K') → wpB (Ev d) 214 Q X 13 [some (pR 1), some (pI (i : Int)), none] [] (kz LR) (PR 4 7) K := by
    intro i K hi k15 k14 kF h1 h2
    have k12 : K 1 12 = (ln : Int) := by rw [kF.1 12 (by decide)]; exact n12
    have hfi := r_fine (M := K) (rd := 4) (ru := 7)
    rw [k15, if_pos rfl] at hfi
    rw [s_214_13]
    refine s_214_14 (Nat.le_of_ble_eq_true rfl) kR_1 (hfi d (by omega)) ?_
    by_cases c1 : la < ln
    · rw [if_pos c1] at h1
      have c2 : ¬ (ln : Int) ≤ (la : Int) := by omega
      have w3 := EqW_i (show w32 (3 * (i : Int)) = ((3 * i : Nat) : Int) by rw [Int.natCast_mul]; exact w32s (by omega))
      have ei := EqW_i (w32n (show i < 1000000 by omega))
      obtain ⟨x, P', K2, hE, rfl, rfl, f2, _, w2, _, _⟩ := r_readAct (ru := 7) (k := 3 * i) (hRd K kF) k14 k15 (Nat.le_refl _) (by omega) (hRD1 K kF) (by omega) d (by omega)
      have q15 := w2 (Nat.le_refl _)
      have hfi2 := r_fine (M := K2) (rd := 4) (ru := 7)
      rw [q15, if_neg (show ¬ (la : Int) = -1 by omega)] at hfi2
      simp only [s_214_0, s_214_1, s_214_2, s_214_5, s_214_6, s_214_11, s_214_12, s_214_17, s_214_20, s_214_21, s_214_24, s_214_25, s_214_28, s_214_31, s_214_32, s_214_33, s_214_34, s_214_38, s_214_41, s_214_48, s_214_51, s_214_52, s_214_53, s_214_56, s_214_57, s_214_58, s_214_59, s_214_62, s_214_63, s_214_66, s_214_70, s_214_71, s_214_73, s_214_74, s_214_77, s_214_78, s_214_79, s_214_82, s_214_83, s_214_84, s_214_85, s_214_86, s_214_87, s_214_90, s_214_91, s_214_92, s_214_93, s_214_94, s_214_95, s_214_96, s_214_97, s_214_100, s_214_101, s_214_102, s_214_103, s_214_104, s_214_105, s_214_109, s_214_112, s_214_115, s_214_119, s_214_122, s_214_123, s_214_124, s_214_130, s_214_131, s_214_132, s_214_135, s_214_136, s_214_137, s_214_138, s_214_141, s_214_142, s_214_145, s_214_149, s_214_150, s_214_151, s_214_154, s_214_157, s_214_158, s_214_162, s_214_163, true_and, and_true, sc0, sc1, sc2, sc3, sc4, Option.toList, List.cons_append, List.nil_append, clr, ne_eq, not_false_eq_true, not_true_eq_false, false_and, and_false, true_or, or_true, or_false, false_or, forall_const, Nat.reduceEqDiff, List.length_nil, List.length_cons, Nat.zero_le, Nat.reduceAdd, Nat.reduceLeDiff, false_implies, true_implies, Int.reduceEq, Int.reduceNe, Int.reduceLT, Int.reduceLE, Int.reduceNeg, Int.reduceToNat, Int.toNat_natCast, Nat.reduceLT, and_self, Decidable.not_not, kR_1, kR_2, kR_3, kR_4, kR_5, kR_6, kR_7, kR_8, kR_9, kR_10, kR_11, kR_12, kR_13, kR_14, kR_15, kR_16, kR_17, kR_18, kR_19, kR_20, kR_21, kR_22, kR_23, pR_0, pR_5, pR_6, pR_8, pR_11, pR_16, pR_17, pR_18, pR_21, pR_22, pR_23, pR_24, pR_26, pR_28, pR_29, pR_30, pR_33, pR_34, pR_35, pR_38, pR_41, pR_42, pR_43, k14, k12, c2, EqW_o w3]
      refine s_214_35 (Nat.le_of_ble_eq_true rfl) kR_1 hE ?_
      simp only [s_214_0, s_214_1, s_214_2, s_214_5, s_214_6, s_214_11, s_214_12, s_214_17, s_214_20, s_214_21, s_214_24, s_214_25, s_214_28, s_214_31, s_214_32, s_214_33, s_214_34, s_214_38, s_214_41, s_214_48, s_214_51, s_214_52, s_214_53, s_214_56, s_214_57, s_214_58, s_214_59, s_214_62, s_214_63, s_214_66, s_214_70, s_214_71, s_214_73, s_214_74, s_214_77, s_214_78, s_214_79, s_214_82, s_214_83, s_214_84, s_214_85, s_214_86, s_214_87, s_214_90, s_214_91, s_214_92, s_214_93, s_214_94, s_214_95, s_214_96, s_214_97, s_214_100, s_214_101, s_214_102, s_214_103, s_214_104, s_214_105, s_214_109, s_214_112, s_214_115, s_214_119, s_214_122, s_214_123, s_214_124, s_214_130, s_214_131, s_214_132, s_214_135, s_214_136, s_214_137, s_214_138, s_214_141, s_214_142, s_214_145, s_214_149, s_214_150, s_214_151, s_214_154, s_214_157, s_214_158, s_214_162, s_214_163, true_and, and_true, sc0, sc1, sc2, sc3, sc4, Option.toList, List.cons_append, List.nil_append, clr, ne_eq, not_false_eq_true, not_true_eq_false, false_and, and_false, true_or, or_true, or_false, false_or, forall_const, Nat.reduceEqDiff, List.length_nil, List.length_cons, Nat.zero_le, Nat.reduceAdd, Nat.reduceLeDiff, false_implies, true_implies, Int.reduceEq, Int.reduceNe, Int.reduceLT, Int.reduceLE, Int.reduceNeg, Int.reduceToNat, Int.toNat_natCast, Nat.reduceLT, and_self, Decidable.not_not, kR_1, kR_2, kR_3, kR_4, kR_5, kR_6, kR_7, kR_8, kR_9, kR_10, kR_11, kR_12, kR_13, kR_14, kR_15, kR_16, kR_17, kR_18, kR_19, kR_20, kR_21, kR_22, kR_23, pR_0, pR_5, pR_6, pR_8, pR_11, pR_16, pR_17, pR_18, pR_21, pR_22, pR_23, pR_24, pR_26, pR_28, pR_29, pR_30, pR_33, pR_34, pR_35, pR_38, pR_41, pR_42, pR_43, EqW_o ei]
      rw [s_214_13]
      refine s_214_14 (Nat.le_of_ble_eq_true rfl) kR_1 (hfi2 d (by omega)) ?_
      simp only [s_214_0, s_214_1, s_214_2, s_214_5, s_214_6, s_214_11, s_214_12, s_214_17, s_214_20, s_214_21, s_214_24, s_214_25, s_214_28, s_214_31, s_214_32, s_214_33, s_214_34, s_214_38, s_214_41, s_214_48, s_214_51, s_214_52, s_214_53, s_214_56, s_214_57, s_214_58, s_214_59, s_214_62, s_214_63, s_214_66, s_214_70, s_214_71, s_214_73, s_214_74, s_214_77, s_214_78, s_214_79, s_214_82, s_214_83, s_214_84, s_214_85, s_214_86, s_214_87, s_214_90, s_214_91, s_214_92, s_214_93, s_214_94, s_214_95, s_214_96, s_214_97, s_214_100, s_214_101, s_214_102, s_214_103, s_214_104, s_214_105, s_214_109, s_214_112, s_214_115, s_214_119, s_214_122, s_214_123, s_214_124, s_214_130, s_214_131, s_214_132, s_214_135, s_214_136, s_214_137, s_214_138, s_214_141, s_214_142, s_214_145, s_214_149, s_214_150, s_214_151, s_214_154, s_214_157, s_214_158, s_214_162, s_214_163, true_and, and_true, sc0, sc1, sc2, sc3, sc4, Option.toList, List.cons_append, List.nil_append, clr, ne_eq, not_false_eq_true, not_true_eq_false, false_and, and_false, true_or, or_true, or_false, false_or, forall_const, Nat.reduceEqDiff, List.length_nil, List.length_cons, Nat.zero_le, Nat.reduceAdd, Nat.reduceLeDiff, false_implies, true_implies, Int.reduceEq, Int.reduceNe, Int.reduceLT, Int.reduceLE, Int.reduceNeg, Int.reduceToNat, Int.toNat_natCast, Nat.reduceLT, and_self, Decidable.not_not, kR_1, kR_2, kR_3, kR_4, kR_5, kR_6, kR_7, kR_8, kR_9, kR_10, kR_11, kR_12, kR_13, kR_14, kR_15, kR_16, kR_17, kR_18, kR_19, kR_20, kR_21, kR_22, kR_23, pR_0, pR_5, pR_6, pR_8, pR_11, pR_16, pR_17, pR_18, pR_21, pR_22, pR_23, pR_24, pR_26, pR_28, pR_29, pR_30, pR_33, pR_34, pR_35, pR_38, pR_41, pR_42, pR_43]
      exact bad K2 la _ q15 (h1 la rfl) (Fr_trans kF f2)
    · rw [if_neg c1] at h2
      have c2 : (ln : Int) ≤ (la : Int) := by omega
      have := h2 [] rfl K k15 (by rw [k14]; omega) kF (fun _ _ => rfl) (fun j hj => absurd hj (Nat.not_lt_zero _))
      simp only [s_214_0, s_214_1, s_214_2, s_214_5, s_214_6, s_214_11, s_214_12, s_214_17, s_214_20, s_214_21, s_214_24, s_214_25, s_214_28, s_214_31, s_214_32, s_214_33, s_214_34, s_214_38, s_214_41, s_214_48, s_214_51, s_214_52, s_214_53, s_214_56, s_214_57, s_214_58, s_214_59, s_214_62, s_214_63, s_214_66, s_214_70, s_214_71, s_214_73, s_214_74, s_214_77, s_214_78, s_214_79, s_214_82, s_214_83, s_214_84, s_214_85, s_214_86, s_214_87, s_214_90, s_214_91, s_214_92, s_214_93, s_214_94, s_214_95, s_214_96, s_214_97, s_214_100, s_214_101, s_214_102, s_214_103, s_214_104, s_214_105, s_214_109, s_214_112, s_214_115, s_214_119, s_214_122, s_214_123, s_214_124, s_214_130, s_214_131, s_214_132, s_214_135, s_214_136, s_214_137, s_214_138, s_214_141, s_214_142, s_214_145, s_214_149, s_214_150, s_214_151, s_214_154, s_214_157, s_214_158, s_214_162, s_214_163, true_and, and_true, sc0, sc1, sc2, sc3, sc4, Option.toList, List.cons_append, List.nil_append, clr, ne_eq, not_false_eq_true, not_true_eq_false, false_and, and_false, true_or, or_true, or_false, false_or, forall_const, Nat.reduceEqDiff, List.length_nil, List.length_cons, Nat.zero_le, Nat.reduceAdd, Nat.reduceLeDiff, false_implies, true_implies, Int.reduceEq, Int.reduceNe, Int.reduceLT, Int.reduceLE, Int.reduceNeg, Int.reduceToNat, Int.toNat_natCast, Nat.reduceLT, and_self, Decidable.not_not, kR_1, kR_2, kR_3, kR_4, kR_5, kR_6, kR_7, kR_8, kR_9, kR_10, kR_11, kR_12, kR_13, kR_14, kR_15, kR_16, kR_17, kR_18, kR_19, kR_20, kR_21, kR_22, kR_23, pR_0, pR_5, pR_6, pR_8, pR_11, pR_16, pR_17, pR_18, pR_21, pR_22, pR_23, pR_24, pR_26, pR_28, pR_29, pR_30, pR_33, pR_34, pR_35, pR_38, pR_41, pR_42, pR_43, k14, k12, c2]
      exact this
  have rl : ∀ (k p i : Nat) (K : MM), la ≤ p + k → p ≤ la → i ≤ p → K 1 15 = -1 → K 1 14 = (p : Int) → Fr [14, 15] [17] N1 K → (∀ w, yP T la ln r c k p = Sum.inl w → g0 = Sum.inl w) → (∀ l, yP T la ln r c k p = Sum.inr l → ∀ K', K' 1 15 = -1 → ¬ K' 1 14 < (ln : Int) → Fr [14, 15] [17] N1 K' → (∀ j, j < 3 * i → K' 17 j = K 17 j) → (∀ j, j < l.length → enY K' (i + j) (l.getD j (0, 0, 0))) → wpB (Ev d) 214 Q X 44 [some (pR 1), some (pI ((i + l.length : Nat) : Int)), none] [] (kz LR) (PR 4 7) K') → wpB (Ev d) 214 Q X 13 [some (pR 1), some (pI (i : Int)), none] [] (kz LR) (PR 4 7) K := by
    intro k
    induction k with
    | zero =>
      intro p i K h1 h2 h3 k15 k14 kF g1 g2
      have hp : p = la := by omega
      subst hp
      exact edge i K h3 k15 k14 kF g1 g2
    | succ k ih =>
      intro p i K h1 h2 h3 k15 k14 kF g1 g2
      unfold yP at g1 g2
      by_cases c1 : la ≤ p
      · rw [if_pos c1] at g1 g2
        have hp : p = la := by omega
        subst hp
        exact edge i K h3 k15 k14 kF g1 g2
      rw [if_neg c1] at g1 g2
      have k12 : K 1 12 = (ln : Int) := by rw [kF.1 12 (by decide)]; exact n12
      have hfi := r_fine (M := K) (rd := 4) (ru := 7)
      rw [k15, if_pos rfl] at hfi
      have c2 : ¬ (ln : Int) ≤ (p : Int) := by omega
      have w3 := EqW_i (show w32 (3 * (i : Int)) = ((3 * i : Nat) : Int) by rw [Int.natCast_mul]; exact w32s (by omega))
      have ei := EqW_i (w32n (show i < 1000000 by omega))
      obtain ⟨x, P', K2, hE, rfl, rfl, f2, o2, _, w2, y2⟩ := r_readAct (ru := 7) (k := 3 * i) (hRd K kF) k14 k15 h2 (by omega) (hRD1 K kF) (by omega) d (by omega)
      rw [s_214_13]
      refine s_214_14 (Nat.le_of_ble_eq_true rfl) kR_1 (hfi d (by omega)) ?_
      simp only [s_214_0, s_214_1, s_214_2, s_214_5, s_214_6, s_214_11, s_214_12, s_214_17, s_214_20, s_214_21, s_214_24, s_214_25, s_214_28, s_214_31, s_214_32, s_214_33, s_214_34, s_214_38, s_214_41, s_214_48, s_214_51, s_214_52, s_214_53, s_214_56, s_214_57, s_214_58, s_214_59, s_214_62, s_214_63, s_214_66, s_214_70, s_214_71, s_214_73, s_214_74, s_214_77, s_214_78, s_214_79, s_214_82, s_214_83, s_214_84, s_214_85, s_214_86, s_214_87, s_214_90, s_214_91, s_214_92, s_214_93, s_214_94, s_214_95, s_214_96, s_214_97, s_214_100, s_214_101, s_214_102, s_214_103, s_214_104, s_214_105, s_214_109, s_214_112, s_214_115, s_214_119, s_214_122, s_214_123, s_214_124, s_214_130, s_214_131, s_214_132, s_214_135, s_214_136, s_214_137, s_214_138, s_214_141, s_214_142, s_214_145, s_214_149, s_214_150, s_214_151, s_214_154, s_214_157, s_214_158, s_214_162, s_214_163, true_and, and_true, sc0, sc1, sc2, sc3, sc4, Option.toList, List.cons_append, List.nil_append, clr, ne_eq, not_false_eq_true, not_true_eq_false, false_and, and_false, true_or, or_true, or_false, false_or, forall_const, Nat.reduceEqDiff, List.length_nil, List.length_cons, Nat.zero_le, Nat.reduceAdd, Nat.reduceLeDiff, false_implies, true_implies, Int.reduceEq, Int.reduceNe, Int.reduceLT, Int.reduceLE, Int.reduceNeg, Int.reduceToNat, Int.toNat_natCast, Nat.reduceLT, and_self, Decidable.not_not, kR_1, kR_2, kR_3, kR_4, kR_5, kR_6, kR_7, kR_8, kR_9, kR_10, kR_11, kR_12, kR_13, kR_14, kR_15, kR_16, kR_17, kR_18, kR_19, kR_20, kR_21, kR_22, kR_23, pR_0, pR_5, pR_6, pR_8, pR_11, pR_16, pR_17, pR_18, pR_21, pR_22, pR_23, pR_24, pR_26, pR_28, pR_29, pR_30, pR_33, pR_34, pR_35, pR_38, pR_41, pR_42, pR_43, k14, k12, c2, EqW_o w3]
      refine s_214_35 (Nat.le_of_ble_eq_true rfl) kR_1 hE ?_
      simp only [s_214_0, s_214_1, s_214_2, s_214_5, s_214_6, s_214_11, s_214_12, s_214_17, s_214_20, s_214_21, s_214_24, s_214_25, s_214_28, s_214_31, s_214_32, s_214_33, s_214_34, s_214_38, s_214_41, s_214_48, s_214_51, s_214_52, s_214_53, s_214_56, s_214_57, s_214_58, s_214_59, s_214_62, s_214_63, s_214_66, s_214_70, s_214_71, s_214_73, s_214_74, s_214_77, s_214_78, s_214_79, s_214_82, s_214_83, s_214_84, s_214_85, s_214_86, s_214_87, s_214_90, s_214_91, s_214_92, s_214_93, s_214_94, s_214_95, s_214_96, s_214_97, s_214_100, s_214_101, s_214_102, s_214_103, s_214_104, s_214_105, s_214_109, s_214_112, s_214_115, s_214_119, s_214_122, s_214_123, s_214_124, s_214_130, s_214_131, s_214_132, s_214_135, s_214_136, s_214_137, s_214_138, s_214_141, s_214_142, s_214_145, s_214_149, s_214_150, s_214_151, s_214_154, s_214_157, s_214_158, s_214_162, s_214_163, true_and, and_true, sc0, sc1, sc2, sc3, sc4, Option.toList, List.cons_append, List.nil_append, clr, ne_eq, not_false_eq_true, not_true_eq_false, false_and, and_false, true_or, or_true, or_false, false_or, forall_const, Nat.reduceEqDiff, List.length_nil, List.length_cons, Nat.zero_le, Nat.reduceAdd, Nat.reduceLeDiff, false_implies, true_implies, Int.reduceEq, Int.reduceNe, Int.reduceLT, Int.reduceLE, Int.reduceNeg, Int.reduceToNat, Int.toNat_natCast, Nat.reduceLT, and_self, Decidable.not_not, kR_1, kR_2, kR_3, kR_4, kR_5, kR_6, kR_7, kR_8, kR_9, kR_10, kR_11, kR_12, kR_13, kR_14, kR_15, kR_16, kR_17, kR_18, kR_19, kR_20, kR_21, kR_22, kR_23, pR_0, pR_5, pR_6, pR_8, pR_11, pR_16, pR_17, pR_18, pR_21, pR_22, pR_23, pR_24, pR_26, pR_28, pR_29, pR_30, pR_33, pR_34, pR_35, pR_38, pR_41, pR_42, pR_43, EqW_o ei]
      by_cases c3 : 0 ≤ aF T la p
      · rw [if_pos c3] at g1
        have q15 := w2 (by omega) c3
        obtain ⟨w, hw⟩ : ∃ w : Nat, aF T la p = (w : Int) := ⟨(aF T la p).toNat, by omega⟩
        rw [hw, Int.toNat_natCast] at g1
        rw [hw] at q15
        have hfi2 := r_fine (M := K2) (rd := 4) (ru := 7)
        rw [q15, if_neg (show ¬ (w : Int) = -1 by omega)] at hfi2
        rw [s_214_13]
        refine s_214_14 (Nat.le_of_ble_eq_true rfl) kR_1 (hfi2 d (by omega)) ?_
        simp only [s_214_0, s_214_1, s_214_2, s_214_5, s_214_6, s_214_11, s_214_12, s_214_17, s_214_20, s_214_21, s_214_24, s_214_25, s_214_28, s_214_31, s_214_32, s_214_33, s_214_34, s_214_38, s_214_41, s_214_48, s_214_51, s_214_52, s_214_53, s_214_56, s_214_57, s_214_58, s_214_59, s_214_62, s_214_63, s_214_66, s_214_70, s_214_71, s_214_73, s_214_74, s_214_77, s_214_78, s_214_79, s_214_82, s_214_83, s_214_84, s_214_85, s_214_86, s_214_87, s_214_90, s_214_91, s_214_92, s_214_93, s_214_94, s_214_95, s_214_96, s_214_97, s_214_100, s_214_101, s_214_102, s_214_103, s_214_104, s_214_105, s_214_109, s_214_112, s_214_115, s_214_119, s_214_122, s_214_123, s_214_124, s_214_130, s_214_131, s_214_132, s_214_135, s_214_136, s_214_137, s_214_138, s_214_141, s_214_142, s_214_145, s_214_149, s_214_150, s_214_151, s_214_154, s_214_157, s_214_158, s_214_162, s_214_163, true_and, and_true, sc0, sc1, sc2, sc3, sc4, Option.toList, List.cons_append, List.nil_append, clr, ne_eq, not_false_eq_true, not_true_eq_false, false_and, and_false, true_or, or_true, or_false, false_or, forall_const, Nat.reduceEqDiff, List.length_nil, List.length_cons, Nat.zero_le, Nat.reduceAdd, Nat.reduceLeDiff, false_implies, true_implies, Int.reduceEq, Int.reduceNe, Int.reduceLT, Int.reduceLE, Int.reduceNeg, Int.reduceToNat, Int.toNat_natCast, Nat.reduceLT, and_self, Decidable.not_not, kR_1, kR_2, kR_3, kR_4, kR_5, kR_6, kR_7, kR_8, kR_9, kR_10, kR_11, kR_12, kR_13, kR_14, kR_15, kR_16, kR_17, kR_18, kR_19, kR_20, kR_21, kR_22, kR_23, pR_0, pR_5, pR_6, pR_8, pR_11, pR_16, pR_17, pR_18, pR_21, pR_22, pR_23, pR_24, pR_26, pR_28, pR_29, pR_30, pR_33, pR_34, pR_35, pR_38, pR_41, pR_42, pR_43]
        exact bad K2 w _ q15 (g1 w rfl) (Fr_trans kF f2)
      · rw [if_neg c3] at g1 g2
        obtain ⟨q15, q14, q1, q2, q3⟩ := y2 (by omega) c3
        have hpl := aF_p c3 (by omega)
        refine ih (p + 1 + dgA (T p)) (i + 1) K2 (by omega) hpl (by omega) q15 q14 (Fr_trans kF f2) (fun w hw => g1 w (by rw [hw]; rfl)) (fun l hl K' z1 z2 z3 z4 z5 => ?_)
        have := g2 (acT T r c p :: l) (by rw [hl]; rfl) K' z1 z2 z3 (fun j hj => by rw [z4 j (by omega)]; exact o2 j hj) (fun j hj => ?_)
        · rw [List.length_cons, show i + (l.length + 1) = i + 1 + l.length by omega] at this
          exact this
        · cases j with
          | zero =>
            show enY K' (i + 0) (acT T r c p)
            rw [Nat.add_zero]
            refine ⟨?_, ?_, fun a1 a2 => ?_⟩
            · rw [z4 _ (by omega)]; exact q1
            · rw [z4 _ (by omega)]; exact q2
            · rw [z4 _ (by omega)]; exact q3 a1 a2
          | succ j =>
            have := z5 j (by simpa using hj)
            rw [show i + (j + 1) = i + 1 + j by omega]; exact this
  have := rl la 0 0 N1 (by omega) (Nat.zero_le _) (Nat.le_refl _) n15 n14 Fr_refl (fun w hw => by rw [hg0]; exact hw) (fun l hl K' z1 z2 z3 _ z5 => by
    rw [Nat.zero_add]
    exact good K' l (by rw [hg0]; exact hl) z1 z2 z3 (fun j hj => by have := z5 j hj; rw [Nat.zero_add] at this; exact this))
  simp only [s_214_0, s_214_1, s_214_2, s_214_5, s_214_6, s_214_11, s_214_12, s_214_17, s_214_20, s_214_21, s_214_24, s_214_25, s_214_28, s_214_31, s_214_32, s_214_33, s_214_34, s_214_38, s_214_41, s_214_48, s_214_51, s_214_52, s_214_53, s_214_56, s_214_57, s_214_58, s_214_59, s_214_62, s_214_63, s_214_66, s_214_70, s_214_71, s_214_73, s_214_74, s_214_77, s_214_78, s_214_79, s_214_82, s_214_83, s_214_84, s_214_85, s_214_86, s_214_87, s_214_90, s_214_91, s_214_92, s_214_93, s_214_94, s_214_95, s_214_96, s_214_97, s_214_100, s_214_101, s_214_102, s_214_103, s_214_104, s_214_105, s_214_109, s_214_112, s_214_115, s_214_119, s_214_122, s_214_123, s_214_124, s_214_130, s_214_131, s_214_132, s_214_135, s_214_136, s_214_137, s_214_138, s_214_141, s_214_142, s_214_145, s_214_149, s_214_150, s_214_151, s_214_154, s_214_157, s_214_158, s_214_162, s_214_163, true_and, and_true, sc0, sc1, sc2, sc3, sc4, Option.toList, List.cons_append, List.nil_append, clr, ne_eq, not_false_eq_true, not_true_eq_false, false_and, and_false, true_or, or_true, or_false, false_or, forall_const, Nat.reduceEqDiff, List.length_nil, List.length_cons, Nat.zero_le, Nat.reduceAdd, Nat.reduceLeDiff, false_implies, true_implies, Int.reduceEq, Int.reduceNe, Int.reduceLT, Int.reduceLE, Int.reduceNeg, Int.reduceToNat, Int.toNat_natCast, Nat.reduceLT, and_self, Decidable.not_not, kR_1, kR_2, kR_3, kR_4, kR_5, kR_6, kR_7, kR_8, kR_9, kR_10, kR_11, kR_12, kR_13, kR_14, kR_15, kR_16, kR_17, kR_18, kR_19, kR_20, kR_21, kR_22, kR_23, pR_0, pR_5, pR_6, pR_8, pR_11, pR_16, pR_17, pR_18, pR_21, pR_22, pR_23, pR_24, pR_26, pR_28, pR_29, pR_30, pR_33, pR_34, pR_35, pR_38, pR_41, pR_42, pR_43]
  refine s_214_8 (Nat.le_of_ble_eq_true rfl) kR_1 (hbt d (by omega)) ?_
  simp only [s_214_0, s_214_1, s_214_2, s_214_5, s_214_6, s_214_11, s_214_12, s_214_17, s_214_20, s_214_21, s_214_24, s_214_25, s_214_28, s_214_31, s_214_32, s_214_33, s_214_34, s_214_38, s_214_41, s_214_48, s_214_51, s_214_52, s_214_53, s_214_56, s_214_57, s_214_58, s_214_59, s_214_62, s_214_63, s_214_66, s_214_70, s_214_71, s_214_73, s_214_74, s_214_77, s_214_78, s_214_79, s_214_82, s_214_83, s_214_84, s_214_85, s_214_86, s_214_87, s_214_90, s_214_91, s_214_92, s_214_93, s_214_94, s_214_95, s_214_96, s_214_97, s_214_100, s_214_101, s_214_102, s_214_103, s_214_104, s_214_105, s_214_109, s_214_112, s_214_115, s_214_119, s_214_122, s_214_123, s_214_124, s_214_130, s_214_131, s_214_132, s_214_135, s_214_136, s_214_137, s_214_138, s_214_141, s_214_142, s_214_145, s_214_149, s_214_150, s_214_151, s_214_154, s_214_157, s_214_158, s_214_162, s_214_163, true_and, and_true, sc0, sc1, sc2, sc3, sc4, Option.toList, List.cons_append, List.nil_append, clr, ne_eq, not_false_eq_true, not_true_eq_false, false_and, and_false, true_or, or_true, or_false, false_or, forall_const, Nat.reduceEqDiff, List.length_nil, List.length_cons, Nat.zero_le, Nat.reduceAdd, Nat.reduceLeDiff, false_implies, true_implies, Int.reduceEq, Int.reduceNe, Int.reduceLT, Int.reduceLE, Int.reduceNeg, Int.reduceToNat, Int.toNat_natCast, Nat.reduceLT, and_self, Decidable.not_not, kR_1, kR_2, kR_3, kR_4, kR_5, kR_6, kR_7, kR_8, kR_9, kR_10, kR_11, kR_12, kR_13, kR_14, kR_15, kR_16, kR_17, kR_18, kR_19, kR_20, kR_21, kR_22, kR_23, pR_0, pR_5, pR_6, pR_8, pR_11, pR_16, pR_17, pR_18, pR_21, pR_22, pR_23, pR_24, pR_26, pR_28, pR_29, pR_30, pR_33, pR_34, pR_35, pR_38, pR_41, pR_42, pR_43]
  exact this
end
theorem j_year {t : Nat} : Jn t 82 214 [] := by
  intro P Q M N hR d hd
  obtain ⟨b, rd, r, c, z, n, A, B, V, u, U, K, m, F, I, T, ln, R, rfl, rfl, hC, hD, hU, hK⟩ := hR
  have hSO : SnO B z n A := ⟨hC.1.2.2.1, hC.1.2.2.2.2.2.2.2⟩
  obtain ⟨x, P1, M1, e1, rfl, p1, p2⟩ := c_year (b := b) (la := min ln 60) hC rfl d (by omega)
  obtain ⟨x', Q1, N1, e2, ⟨rd', rfl⟩, q1, q2⟩ := r_year (rd := rd) (la := min ln 60) hD rfl d (by omega)
  cases hg : yP T (min ln 60) ln r c (min ln 60) 0 with
  | inl w =>
    obtain ⟨rfl, rfl⟩ := p1 w hg
    obtain ⟨rfl, f1⟩ := q1 w hg
    exact ⟨_, _, _, _, _, e1, e2, b, rd', r, c, z, n, A, B, V, u, U, K, m, F, I, T, 0, R, rfl, rfl, RelC_0 hC, f1, hU, hK⟩
  | inr l =>
    obtain ⟨rfl, g1⟩ := p2 l hg
    obtain ⟨rfl, g2⟩ := q2 l hg
    refine ⟨_, _, _, _, _, e1, e2, b, rd', r, c, z, n, _, B, V, u, _, K, m, F, I, T, 0, _, rfl, rfl, g1, g2, ?_, hK⟩
    split
    · exact hU
    · exact VlU_ps hU hSO
