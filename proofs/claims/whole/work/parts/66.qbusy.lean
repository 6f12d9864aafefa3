/-! busiest, hard, better -/
section
variable (c z n : Nat) (V : GV) (A B : Nat → Int)
noncomputable def ovN (f : Nat) : Int := (cnt (fun g => onS c z V A B g f) n : Int)
noncomputable def qBusiest : Int × Option (List Int) := ((amx (ovN c z n V A B) (z - 1) : Int), some [ovN c z n V A B (amx (ovN c z n V A B) (z - 1))])
noncomputable def qHard (g f : Int) : Int := if (0 ≤ g ∧ g < (n : Int)) ∧ (0 ≤ f ∧ f < (z : Int)) then hF V A g.toNat f.toNat else -1
/-- one right more -/
def rgU (A : Nat → Int) (g k : Nat) : Nat → Int := fun j => if j = 114 + g then bOr (A (114 + g)) ((2 ^ k : Nat) : Int) else A j
/-- the least, and the best kind, after the kinds up to k -/
noncomputable def btS (I : Int) (g : Nat) : Nat → Int × Int
  | 0 => (I, -2)
  | k + 1 => if hpS c z V (rgU A g (k + 1)) B g ∧ vS c z V (rgU A g (k + 1)) B g < (btS I g k).1 then (vS c z V (rgU A g (k + 1)) B g, ((k + 1 : Nat) : Int)) else btS I g k
noncomputable def btI (I : Int) (g : Nat) : Int := if hpS c z V A B g then vS c z V A B g else I
noncomputable def qBetter (g : Int) : Int × Option (List Int) := if ¬ (0 ≤ g ∧ g < (n : Int)) then (-1, none) else if 0 < (btS c z V A B (btI c z V A B FAR g.toNat) g.toNat 3).2 then ((btS c z V A B (btI c z V A B FAR g.toNat) g.toNat 3).2, some [(btS c z V A B (btI c z V A B FAR g.toNat) g.toNat 3).1]) else (-2, none)
end
section
variable {c z n : Nat} {V : GV} {A B : Nat → Int}
theorem ovN_r {f : Nat} : 0 ≤ ovN c z n V A B f ∧ ovN c z n V A B f ≤ (n : Int) := by
  have := cnt_le (fun g => onS c z V A B g f) n
  unfold ovN; omega
theorem rg_r {a k : Nat} (ha : a ≤ 15) (hk : k ≤ 3) : bOr (a : Int) ((2 ^ k : Nat) : Int) = ((a ||| 2 ^ k : Nat) : Int) ∧ a ||| 2 ^ k ≤ 15 := by
  have h1 : a < 2 ^ 4 := by omega
  have h2 : 2 ^ k < 2 ^ 4 := Nat.pow_lt_pow_right (by decide) (by omega)
  have h3 : a ||| 2 ^ k < 2 ^ 4 := Nat.or_lt_two_pow h1 h2
  exact ⟨bOr_n (by omega) (by omega), by omega⟩
theorem SnV_rg {g k : Nat} (h : SnV A B z n) (hz : z ≤ 36) (hg : g < n) (hk : k ≤ 3) : SnV (rgU A g k) B z n := by
  obtain ⟨h6, h1, h2, h3⟩ := h
  refine ⟨h6, fun f hf => ?_, fun j hj => ?_, ?_⟩
  · unfold rgU
    rw [if_neg (by omega), if_neg (by omega), if_neg (by omega)]; exact h1 f hf
  · obtain ⟨a1, a2, a3, a4, a5⟩ := h2 j hj
    unfold rgU
    rw [if_neg (by omega), if_neg (show ¬ 120 + j = 114 + g by omega), if_neg (show ¬ 126 + j = 114 + g by omega)]
    refine ⟨a1, a2, ?_, a4, a5⟩
    split
    · have hb := (h2 g hg).2.2.1
      obtain ⟨a, ha⟩ : ∃ a : Nat, A (114 + g) = (a : Int) := ⟨(A (114 + g)).toNat, by omega⟩
      have := rg_r (a := a) (k := k) (by omega) hk
      rw [ha, this.1]; omega
    · exact a3
  · unfold rgU; rw [if_neg (by omega)]; exact h3
/-- the first guess doesn't show -/
theorem btS_I {I I' : Int} {g : Nat} (hL : Lnd c z) (hV : SnV A B z n) (hz : z ≤ 36) (hg : g < n) (hI : 3500 < I) (hI' : 3500 < I') : ∀ k, k ≤ 3 → (btS c z V A B I g k).2 = (btS c z V A B I' g k).2 ∧ ((btS c z V A B I g k = btS c z V A B I' g k ∧ 0 < (btS c z V A B I g k).2) ∨ ((btS c z V A B I g k) = (I, -2) ∧ (btS c z V A B I' g k) = (I', -2)))
  | 0, _ => ⟨rfl, Or.inr ⟨rfl, rfl⟩⟩
  | k + 1, hk => by
    have ih := (btS_I hL hV hz hg hI hI' k (by omega)).2
    have hr := vS_r (V := V) hL (SnV_rg (k := k + 1) hV hz hg hk) hg
    unfold btS
    rcases ih with ⟨e, e2⟩ | ⟨e1, e2⟩
    · rw [e]
      split
      · exact ⟨rfl, Or.inl ⟨rfl, by show (0 : Int) < ((k + 1 : Nat) : Int); omega⟩⟩
      · rw [e] at e2
        exact ⟨rfl, Or.inl ⟨rfl, e2⟩⟩
    · rw [e1, e2]
      dsimp only
      by_cases hp : hpS c z V (rgU A g (k + 1)) B g
      · rw [if_pos ⟨hp, by omega⟩, if_pos ⟨hp, by omega⟩]
        exact ⟨rfl, Or.inl ⟨rfl, by show (0 : Int) < ((k + 1 : Nat) : Int); omega⟩⟩
      · rw [if_neg (fun w => hp w.1), if_neg (fun w => hp w.1)]
        exact ⟨rfl, Or.inr ⟨rfl, rfl⟩⟩
theorem btS_r {I : Int} {g : Nat} (k : Nat) : (btS c z V A B I g k).2 = -2 ∨ 0 < (btS c z V A B I g k).2 := by
  induction k with
  | zero => exact Or.inl rfl
  | succ k ih =>
    unfold btS
    split
    · right; show (0 : Int) < ((k + 1 : Nat) : Int); omega
    · exact ih
theorem btS_le {I : Int} {g : Nat} (k : Nat) : (btS c z V A B I g k).1 ≤ I := by
  induction k with
  | zero => exact Int.le_refl _
  | succ k ih =>
    unfold btS
    split
    · rename_i w; have := w.2; dsimp only; omega
    · exact ih
end
section
variable {M : MM} {b : Bool} {r c z n : Nat} {A B : Nat → Int} {V : GV} {u : Int}
theorem c_busiest (h : WdC M b r c z n A B V u) : Cw 5 114 [pR 1] LC (PC b) M (QC b M (pI (qBusiest c z n V A B).1) (qBusiest c z n V A B).2) := by
  refine Cw_k [some (pR 1), none, none, none, none] (Nat.le_of_ble_eq_true rfl) rfl (fun d hd Q X hQ => ?_)
  obtain ⟨hG, hS, hV, hR, _⟩ := h
  have hn6 := hV.1
  have hz := GrC_z hG
  have hqn := qr_n (b := b)
  obtain ⟨v, P', N, hE, rfl, rfl, w1, w2⟩ := c_seekAll (b := b) qr_q now_st hG hS hV hR d (by omega)
  have hSq : Sq N M := fun p hp => w1 p (fun e => hp (by rw [e]; exact qr_scr.2.2)) (by unfold scr at hp; omega)
  have e5 : N 5 5 = (n : Int) := by rw [w1 5 (by omega) (by omega)]; exact hS.2.2.2.1
  have hsz : N 3 2 = (z : Int) := by rw [w1 3 (by omega) (by omega)]; exact GrC_s hG
  unfold qBusiest at hQ
  generalize hFd : ovN c z n V A B = F at hQ
  have hFr : ∀ f, 0 ≤ F f := fun f => by rw [← hFd]; exact ovN_r.1
  simp only [s_114_0, s_114_1, s_114_4, s_114_5, s_114_8, s_114_9, s_114_15, s_114_16, s_114_17, s_114_18, s_114_19, s_114_20, s_114_22, s_114_23, s_114_26, s_114_29, s_114_32, s_114_33, s_114_36, s_114_37, s_114_40, s_114_47, s_114_49, s_114_51, s_114_52, s_114_55, s_114_57, s_114_58, s_114_59, s_114_60, s_114_63, s_114_66, s_114_67, s_114_73, s_114_74, s_114_77, s_114_78, s_114_82, s_114_83, true_and, and_true, sc0, sc1, sc2, sc3, sc4, Option.toList, List.cons_append, List.nil_append, clr, ne_eq, not_false_eq_true, not_true_eq_false, false_and, and_false, true_or, or_true, or_false, false_or, forall_const, Nat.reduceEqDiff, List.length_nil, List.length_cons, Nat.zero_le, Nat.reduceAdd, Nat.reduceLeDiff, false_implies, true_implies, Int.reduceEq, Int.reduceNe, Int.reduceLT, Int.reduceLE, Int.reduceNeg, Int.reduceToNat, Int.toNat_natCast, Nat.reduceLT, and_self, Decidable.not_not, kC_0, kC_1, kC_2, kC_3, kC_4, kC_5, kC_6, kC_7, kC_8, kC_9, kC_10, kC_11, kC_12, kC_13, kC_14, kC_15, kC_16, kC_17, kC_18, kC_19, kC_20, kC_21, kC_22, kC_23, kC_24, kC_25, kC_26, kC_27, kC_28, kC_29, kC_30, kC_31, kC_32, kC_145, kC_146, kC_147, kC_148, kC_149, kC_150, kC_151, kC_164, kC_165, kC_166, kC_167, kC_168, kC_169, kC_170, kC_171, kC_172, kC_173, kC_174, kC_175, kC_176, kC_177, kC_178, kC_179, kC_180, kC_181, kC_182, kC_183, kC_184, pC_1_0, pC_1_2, pC_1_3, pC_1_4, pC_1_5, pC_1_6, pC_1_7, pC_1_8, pC_1_9, pC_1_10, pC_1_11, pC_3_5, pC_5_0, pC_5_1, pC_5_2, pC_5_6, pC_5_7, pC_5_8, pC_5_9, pC_5_10, pC_13_0, pC_13_1, pC_13_2, pC_13_6, pC_13_7, pC_13_8, pC_13_9, pC_13_10, pC_21_0, pC_21_1, pC_21_2, pC_21_6, pC_21_7, pC_21_8, pC_21_9, pC_21_10, pC_29_0, pC_29_1, pC_29_2, pC_145_0, pC_145_1, pC_145_2, pC_145_3, pC_145_4, pC_149_0, pC_149_1, pC_149_2, pC_164_1, pC_164_2, pC_164_3, pC_168_0, pC_168_3, pC_168_4, pC_168_5, pC_172_0, pC_175_0, pC_175_2, pC_175_3, pC_175_5, pC_180_0, pC_180_2, pC_180_3, pC_180_5, qr_p, qr_0]
  refine s_114_12 (Nat.le_of_ble_eq_true rfl) kC_145 hE ?_
  simp only [s_114_0, s_114_1, s_114_4, s_114_5, s_114_8, s_114_9, s_114_15, s_114_16, s_114_17, s_114_18, s_114_19, s_114_20, s_114_22, s_114_23, s_114_26, s_114_29, s_114_32, s_114_33, s_114_36, s_114_37, s_114_40, s_114_47, s_114_49, s_114_51, s_114_52, s_114_55, s_114_57, s_114_58, s_114_59, s_114_60, s_114_63, s_114_66, s_114_67, s_114_73, s_114_74, s_114_77, s_114_78, s_114_82, s_114_83, true_and, and_true, sc0, sc1, sc2, sc3, sc4, Option.toList, List.cons_append, List.nil_append, clr, ne_eq, not_false_eq_true, not_true_eq_false, false_and, and_false, true_or, or_true, or_false, false_or, forall_const, Nat.reduceEqDiff, List.length_nil, List.length_cons, Nat.zero_le, Nat.reduceAdd, Nat.reduceLeDiff, false_implies, true_implies, Int.reduceEq, Int.reduceNe, Int.reduceLT, Int.reduceLE, Int.reduceNeg, Int.reduceToNat, Int.toNat_natCast, Nat.reduceLT, and_self, Decidable.not_not, kC_0, kC_1, kC_2, kC_3, kC_4, kC_5, kC_6, kC_7, kC_8, kC_9, kC_10, kC_11, kC_12, kC_13, kC_14, kC_15, kC_16, kC_17, kC_18, kC_19, kC_20, kC_21, kC_22, kC_23, kC_24, kC_25, kC_26, kC_27, kC_28, kC_29, kC_30, kC_31, kC_32, kC_145, kC_146, kC_147, kC_148, kC_149, kC_150, kC_151, kC_164, kC_165, kC_166, kC_167, kC_168, kC_169, kC_170, kC_171, kC_172, kC_173, kC_174, kC_175, kC_176, kC_177, kC_178, kC_179, kC_180, kC_181, kC_182, kC_183, kC_184, pC_1_0, pC_1_2, pC_1_3, pC_1_4, pC_1_5, pC_1_6, pC_1_7, pC_1_8, pC_1_9, pC_1_10, pC_1_11, pC_3_5, pC_5_0, pC_5_1, pC_5_2, pC_5_6, pC_5_7, pC_5_8, pC_5_9, pC_5_10, pC_13_0, pC_13_1, pC_13_2, pC_13_6, pC_13_7, pC_13_8, pC_13_9, pC_13_10, pC_21_0, pC_21_1, pC_21_2, pC_21_6, pC_21_7, pC_21_8, pC_21_9, pC_21_10, pC_29_0, pC_29_1, pC_29_2, pC_145_0, pC_145_1, pC_145_2, pC_145_3, pC_145_4, pC_149_0, pC_149_1, pC_149_2, pC_164_1, pC_164_2, pC_164_3, pC_168_0, pC_168_3, pC_168_4, pC_168_5, pC_172_0, pC_175_0, pC_175_2, pC_175_3, pC_175_5, pC_180_0, pC_180_2, pC_180_3, pC_180_5]
  refine lup (α := Option PV) (I := fun _ _ => True) (G := fun f y => wpB (Ev d) 114 Q X 21 [some (pR 1), some (pI (amx F (f - 1) : Int)), some (pI (if f = 0 then -1 else F (amx F (f - 1)))), some (pI (f : Int)), y] [] (kz LC) (PC b) N) z (fun y _ => ?_) (fun f y hf _ ih => ?_) 0 none (Nat.zero_le _) trivial
  · rw [s_114_21, if_neg (by omega)]
    simp only [s_114_0, s_114_1, s_114_4, s_114_5, s_114_8, s_114_9, s_114_15, s_114_16, s_114_17, s_114_18, s_114_19, s_114_20, s_114_22, s_114_23, s_114_26, s_114_29, s_114_32, s_114_33, s_114_36, s_114_37, s_114_40, s_114_47, s_114_49, s_114_51, s_114_52, s_114_55, s_114_57, s_114_58, s_114_59, s_114_60, s_114_63, s_114_66, s_114_67, s_114_73, s_114_74, s_114_77, s_114_78, s_114_82, s_114_83, true_and, and_true, sc0, sc1, sc2, sc3, sc4, Option.toList, List.cons_append, List.nil_append, clr, ne_eq, not_false_eq_true, not_true_eq_false, false_and, and_false, true_or, or_true, or_false, false_or, forall_const, Nat.reduceEqDiff, List.length_nil, List.length_cons, Nat.zero_le, Nat.reduceAdd, Nat.reduceLeDiff, false_implies, true_implies, Int.reduceEq, Int.reduceNe, Int.reduceLT, Int.reduceLE, Int.reduceNeg, Int.reduceToNat, Int.toNat_natCast, Nat.reduceLT, and_self, Decidable.not_not, kC_0, kC_1, kC_2, kC_3, kC_4, kC_5, kC_6, kC_7, kC_8, kC_9, kC_10, kC_11, kC_12, kC_13, kC_14, kC_15, kC_16, kC_17, kC_18, kC_19, kC_20, kC_21, kC_22, kC_23, kC_24, kC_25, kC_26, kC_27, kC_28, kC_29, kC_30, kC_31, kC_32, kC_145, kC_146, kC_147, kC_148, kC_149, kC_150, kC_151, kC_164, kC_165, kC_166, kC_167, kC_168, kC_169, kC_170, kC_171, kC_172, kC_173, kC_174, kC_175, kC_176, kC_177, kC_178, kC_179, kC_180, kC_181, kC_182, kC_183, kC_184, pC_1_0, pC_1_2, pC_1_3, pC_1_4, pC_1_5, pC_1_6, pC_1_7, pC_1_8, pC_1_9, pC_1_10, pC_1_11, pC_3_5, pC_5_0, pC_5_1, pC_5_2, pC_5_6, pC_5_7, pC_5_8, pC_5_9, pC_5_10, pC_13_0, pC_13_1, pC_13_2, pC_13_6, pC_13_7, pC_13_8, pC_13_9, pC_13_10, pC_21_0, pC_21_1, pC_21_2, pC_21_6, pC_21_7, pC_21_8, pC_21_9, pC_21_10, pC_29_0, pC_29_1, pC_29_2, pC_145_0, pC_145_1, pC_145_2, pC_145_3, pC_145_4, pC_149_0, pC_149_1, pC_149_2, pC_164_1, pC_164_2, pC_164_3, pC_168_0, pC_168_3, pC_168_4, pC_168_5, pC_172_0, pC_175_0, pC_175_2, pC_175_3, pC_175_5, pC_180_0, pC_180_2, pC_180_3, pC_180_5, hsz, Int.le_refl]
    refine s_114_70 (Nat.le_of_ble_eq_true rfl) kC_172 (c_begin d (by omega)) ?_
    simp only [s_114_0, s_114_1, s_114_4, s_114_5, s_114_8, s_114_9, s_114_15, s_114_16, s_114_17, s_114_18, s_114_19, s_114_20, s_114_22, s_114_23, s_114_26, s_114_29, s_114_32, s_114_33, s_114_36, s_114_37, s_114_40, s_114_47, s_114_49, s_114_51, s_114_52, s_114_55, s_114_57, s_114_58, s_114_59, s_114_60, s_114_63, s_114_66, s_114_67, s_114_73, s_114_74, s_114_77, s_114_78, s_114_82, s_114_83, true_and, and_true, sc0, sc1, sc2, sc3, sc4, Option.toList, List.cons_append, List.nil_append, clr, ne_eq, not_false_eq_true, not_true_eq_false, false_and, and_false, true_or, or_true, or_false, false_or, forall_const, Nat.reduceEqDiff, List.length_nil, List.length_cons, Nat.zero_le, Nat.reduceAdd, Nat.reduceLeDiff, false_implies, true_implies, Int.reduceEq, Int.reduceNe, Int.reduceLT, Int.reduceLE, Int.reduceNeg, Int.reduceToNat, Int.toNat_natCast, Nat.reduceLT, and_self, Decidable.not_not, kC_0, kC_1, kC_2, kC_3, kC_4, kC_5, kC_6, kC_7, kC_8, kC_9, kC_10, kC_11, kC_12, kC_13, kC_14, kC_15, kC_16, kC_17, kC_18, kC_19, kC_20, kC_21, kC_22, kC_23, kC_24, kC_25, kC_26, kC_27, kC_28, kC_29, kC_30, kC_31, kC_32, kC_145, kC_146, kC_147, kC_148, kC_149, kC_150, kC_151, kC_164, kC_165, kC_166, kC_167, kC_168, kC_169, kC_170, kC_171, kC_172, kC_173, kC_174, kC_175, kC_176, kC_177, kC_178, kC_179, kC_180, kC_181, kC_182, kC_183, kC_184, pC_1_0, pC_1_2, pC_1_3, pC_1_4, pC_1_5, pC_1_6, pC_1_7, pC_1_8, pC_1_9, pC_1_10, pC_1_11, pC_3_5, pC_5_0, pC_5_1, pC_5_2, pC_5_6, pC_5_7, pC_5_8, pC_5_9, pC_5_10, pC_13_0, pC_13_1, pC_13_2, pC_13_6, pC_13_7, pC_13_8, pC_13_9, pC_13_10, pC_21_0, pC_21_1, pC_21_2, pC_21_6, pC_21_7, pC_21_8, pC_21_9, pC_21_10, pC_29_0, pC_29_1, pC_29_2, pC_145_0, pC_145_1, pC_145_2, pC_145_3, pC_145_4, pC_149_0, pC_149_1, pC_149_2, pC_164_1, pC_164_2, pC_164_3, pC_168_0, pC_168_3, pC_168_4, pC_168_5, pC_172_0, pC_175_0, pC_175_2, pC_175_3, pC_175_5, pC_180_0, pC_180_2, pC_180_3, pC_180_5]
    refine s_114_79 (Nat.le_of_ble_eq_true rfl) kC_172 (c_add0 d (by omega)) ?_
    simp only [s_114_0, s_114_1, s_114_4, s_114_5, s_114_8, s_114_9, s_114_15, s_114_16, s_114_17, s_114_18, s_114_19, s_114_20, s_114_22, s_114_23, s_114_26, s_114_29, s_114_32, s_114_33, s_114_36, s_114_37, s_114_40, s_114_47, s_114_49, s_114_51, s_114_52, s_114_55, s_114_57, s_114_58, s_114_59, s_114_60, s_114_63, s_114_66, s_114_67, s_114_73, s_114_74, s_114_77, s_114_78, s_114_82, s_114_83, true_and, and_true, sc0, sc1, sc2, sc3, sc4, Option.toList, List.cons_append, List.nil_append, clr, ne_eq, not_false_eq_true, not_true_eq_false, false_and, and_false, true_or, or_true, or_false, false_or, forall_const, Nat.reduceEqDiff, List.length_nil, List.length_cons, Nat.zero_le, Nat.reduceAdd, Nat.reduceLeDiff, false_implies, true_implies, Int.reduceEq, Int.reduceNe, Int.reduceLT, Int.reduceLE, Int.reduceNeg, Int.reduceToNat, Int.toNat_natCast, Nat.reduceLT, and_self, Decidable.not_not, kC_0, kC_1, kC_2, kC_3, kC_4, kC_5, kC_6, kC_7, kC_8, kC_9, kC_10, kC_11, kC_12, kC_13, kC_14, kC_15, kC_16, kC_17, kC_18, kC_19, kC_20, kC_21, kC_22, kC_23, kC_24, kC_25, kC_26, kC_27, kC_28, kC_29, kC_30, kC_31, kC_32, kC_145, kC_146, kC_147, kC_148, kC_149, kC_150, kC_151, kC_164, kC_165, kC_166, kC_167, kC_168, kC_169, kC_170, kC_171, kC_172, kC_173, kC_174, kC_175, kC_176, kC_177, kC_178, kC_179, kC_180, kC_181, kC_182, kC_183, kC_184, pC_1_0, pC_1_2, pC_1_3, pC_1_4, pC_1_5, pC_1_6, pC_1_7, pC_1_8, pC_1_9, pC_1_10, pC_1_11, pC_3_5, pC_5_0, pC_5_1, pC_5_2, pC_5_6, pC_5_7, pC_5_8, pC_5_9, pC_5_10, pC_13_0, pC_13_1, pC_13_2, pC_13_6, pC_13_7, pC_13_8, pC_13_9, pC_13_10, pC_21_0, pC_21_1, pC_21_2, pC_21_6, pC_21_7, pC_21_8, pC_21_9, pC_21_10, pC_29_0, pC_29_1, pC_29_2, pC_145_0, pC_145_1, pC_145_2, pC_145_3, pC_145_4, pC_149_0, pC_149_1, pC_149_2, pC_164_1, pC_164_2, pC_164_3, pC_168_0, pC_168_3, pC_168_4, pC_168_5, pC_172_0, pC_175_0, pC_175_2, pC_175_3, pC_175_5, pC_180_0, pC_180_2, pC_180_3, pC_180_5]
    exact hQ _ _ _ (QC_s (Sq_td (Sq_b hSq)) ToC_1)
  · have e0 : ¬ (z : Int) ≤ (f : Int) := by omega
    have hib := c_ibc (L := LC) (P := PC b) (M := N) (x := ((bs (fun g => onS c z V A B g f) n : Nat) : Int))
    rw [ibc_bs (by omega)] at hib
    have hFf : (cnt (fun g => onS c z V A B g f) n : Int) = F f := by rw [← hFd]; rfl
    rw [hFf] at hib
    have ihf := fun y => ih y trivial
    rw [Nat.add_sub_cancel] at ihf
    have hFf0 := hFr f
    have en := EqW_i (w32n (show f < 1000000 by omega))
    rw [s_114_21]
    simp only [s_114_0, s_114_1, s_114_4, s_114_5, s_114_8, s_114_9, s_114_15, s_114_16, s_114_17, s_114_18, s_114_19, s_114_20, s_114_22, s_114_23, s_114_26, s_114_29, s_114_32, s_114_33, s_114_36, s_114_37, s_114_40, s_114_47, s_114_49, s_114_51, s_114_52, s_114_55, s_114_57, s_114_58, s_114_59, s_114_60, s_114_63, s_114_66, s_114_67, s_114_73, s_114_74, s_114_77, s_114_78, s_114_82, s_114_83, true_and, and_true, sc0, sc1, sc2, sc3, sc4, Option.toList, List.cons_append, List.nil_append, clr, ne_eq, not_false_eq_true, not_true_eq_false, false_and, and_false, true_or, or_true, or_false, false_or, forall_const, Nat.reduceEqDiff, List.length_nil, List.length_cons, Nat.zero_le, Nat.reduceAdd, Nat.reduceLeDiff, false_implies, true_implies, Int.reduceEq, Int.reduceNe, Int.reduceLT, Int.reduceLE, Int.reduceNeg, Int.reduceToNat, Int.toNat_natCast, Nat.reduceLT, and_self, Decidable.not_not, kC_0, kC_1, kC_2, kC_3, kC_4, kC_5, kC_6, kC_7, kC_8, kC_9, kC_10, kC_11, kC_12, kC_13, kC_14, kC_15, kC_16, kC_17, kC_18, kC_19, kC_20, kC_21, kC_22, kC_23, kC_24, kC_25, kC_26, kC_27, kC_28, kC_29, kC_30, kC_31, kC_32, kC_145, kC_146, kC_147, kC_148, kC_149, kC_150, kC_151, kC_164, kC_165, kC_166, kC_167, kC_168, kC_169, kC_170, kC_171, kC_172, kC_173, kC_174, kC_175, kC_176, kC_177, kC_178, kC_179, kC_180, kC_181, kC_182, kC_183, kC_184, pC_1_0, pC_1_2, pC_1_3, pC_1_4, pC_1_5, pC_1_6, pC_1_7, pC_1_8, pC_1_9, pC_1_10, pC_1_11, pC_3_5, pC_5_0, pC_5_1, pC_5_2, pC_5_6, pC_5_7, pC_5_8, pC_5_9, pC_5_10, pC_13_0, pC_13_1, pC_13_2, pC_13_6, pC_13_7, pC_13_8, pC_13_9, pC_13_10, pC_21_0, pC_21_1, pC_21_2, pC_21_6, pC_21_7, pC_21_8, pC_21_9, pC_21_10, pC_29_0, pC_29_1, pC_29_2, pC_145_0, pC_145_1, pC_145_2, pC_145_3, pC_145_4, pC_149_0, pC_149_1, pC_149_2, pC_164_1, pC_164_2, pC_164_3, pC_168_0, pC_168_3, pC_168_4, pC_168_5, pC_172_0, pC_175_0, pC_175_2, pC_175_3, pC_175_5, pC_180_0, pC_180_2, pC_180_3, pC_180_5, hsz, e0]
    refine s_114_41 (Nat.le_of_ble_eq_true rfl) kC_145 (c_over (b := b) now_st e5 hn6 hz.2 hf w2 d (by omega)) ?_
    simp only [s_114_0, s_114_1, s_114_4, s_114_5, s_114_8, s_114_9, s_114_15, s_114_16, s_114_17, s_114_18, s_114_19, s_114_20, s_114_22, s_114_23, s_114_26, s_114_29, s_114_32, s_114_33, s_114_36, s_114_37, s_114_40, s_114_47, s_114_49, s_114_51, s_114_52, s_114_55, s_114_57, s_114_58, s_114_59, s_114_60, s_114_63, s_114_66, s_114_67, s_114_73, s_114_74, s_114_77, s_114_78, s_114_82, s_114_83, true_and, and_true, sc0, sc1, sc2, sc3, sc4, Option.toList, List.cons_append, List.nil_append, clr, ne_eq, not_false_eq_true, not_true_eq_false, false_and, and_false, true_or, or_true, or_false, false_or, forall_const, Nat.reduceEqDiff, List.length_nil, List.length_cons, Nat.zero_le, Nat.reduceAdd, Nat.reduceLeDiff, false_implies, true_implies, Int.reduceEq, Int.reduceNe, Int.reduceLT, Int.reduceLE, Int.reduceNeg, Int.reduceToNat, Int.toNat_natCast, Nat.reduceLT, and_self, Decidable.not_not, kC_0, kC_1, kC_2, kC_3, kC_4, kC_5, kC_6, kC_7, kC_8, kC_9, kC_10, kC_11, kC_12, kC_13, kC_14, kC_15, kC_16, kC_17, kC_18, kC_19, kC_20, kC_21, kC_22, kC_23, kC_24, kC_25, kC_26, kC_27, kC_28, kC_29, kC_30, kC_31, kC_32, kC_145, kC_146, kC_147, kC_148, kC_149, kC_150, kC_151, kC_164, kC_165, kC_166, kC_167, kC_168, kC_169, kC_170, kC_171, kC_172, kC_173, kC_174, kC_175, kC_176, kC_177, kC_178, kC_179, kC_180, kC_181, kC_182, kC_183, kC_184, pC_1_0, pC_1_2, pC_1_3, pC_1_4, pC_1_5, pC_1_6, pC_1_7, pC_1_8, pC_1_9, pC_1_10, pC_1_11, pC_3_5, pC_5_0, pC_5_1, pC_5_2, pC_5_6, pC_5_7, pC_5_8, pC_5_9, pC_5_10, pC_13_0, pC_13_1, pC_13_2, pC_13_6, pC_13_7, pC_13_8, pC_13_9, pC_13_10, pC_21_0, pC_21_1, pC_21_2, pC_21_6, pC_21_7, pC_21_8, pC_21_9, pC_21_10, pC_29_0, pC_29_1, pC_29_2, pC_145_0, pC_145_1, pC_145_2, pC_145_3, pC_145_4, pC_149_0, pC_149_1, pC_149_2, pC_164_1, pC_164_2, pC_164_3, pC_168_0, pC_168_3, pC_168_4, pC_168_5, pC_172_0, pC_175_0, pC_175_2, pC_175_3, pC_175_5, pC_180_0, pC_180_2, pC_180_3, pC_180_5]
    refine s_114_44 (Nat.le_of_ble_eq_true rfl) (hib d (by omega)) ?_
    by_cases q0 : f = 0
    · subst q0
      rw [if_pos rfl]
      have g : ¬ F 0 ≤ -1 := by omega
      have := ihf (some (pI (F 0)))
      rw [if_neg (by decide)] at this
      simp only [s_114_0, s_114_1, s_114_4, s_114_5, s_114_8, s_114_9, s_114_15, s_114_16, s_114_17, s_114_18, s_114_19, s_114_20, s_114_22, s_114_23, s_114_26, s_114_29, s_114_32, s_114_33, s_114_36, s_114_37, s_114_40, s_114_47, s_114_49, s_114_51, s_114_52, s_114_55, s_114_57, s_114_58, s_114_59, s_114_60, s_114_63, s_114_66, s_114_67, s_114_73, s_114_74, s_114_77, s_114_78, s_114_82, s_114_83, true_and, and_true, sc0, sc1, sc2, sc3, sc4, Option.toList, List.cons_append, List.nil_append, clr, ne_eq, not_false_eq_true, not_true_eq_false, false_and, and_false, true_or, or_true, or_false, false_or, forall_const, Nat.reduceEqDiff, List.length_nil, List.length_cons, Nat.zero_le, Nat.reduceAdd, Nat.reduceLeDiff, false_implies, true_implies, Int.reduceEq, Int.reduceNe, Int.reduceLT, Int.reduceLE, Int.reduceNeg, Int.reduceToNat, Int.toNat_natCast, Nat.reduceLT, and_self, Decidable.not_not, kC_0, kC_1, kC_2, kC_3, kC_4, kC_5, kC_6, kC_7, kC_8, kC_9, kC_10, kC_11, kC_12, kC_13, kC_14, kC_15, kC_16, kC_17, kC_18, kC_19, kC_20, kC_21, kC_22, kC_23, kC_24, kC_25, kC_26, kC_27, kC_28, kC_29, kC_30, kC_31, kC_32, kC_145, kC_146, kC_147, kC_148, kC_149, kC_150, kC_151, kC_164, kC_165, kC_166, kC_167, kC_168, kC_169, kC_170, kC_171, kC_172, kC_173, kC_174, kC_175, kC_176, kC_177, kC_178, kC_179, kC_180, kC_181, kC_182, kC_183, kC_184, pC_1_0, pC_1_2, pC_1_3, pC_1_4, pC_1_5, pC_1_6, pC_1_7, pC_1_8, pC_1_9, pC_1_10, pC_1_11, pC_3_5, pC_5_0, pC_5_1, pC_5_2, pC_5_6, pC_5_7, pC_5_8, pC_5_9, pC_5_10, pC_13_0, pC_13_1, pC_13_2, pC_13_6, pC_13_7, pC_13_8, pC_13_9, pC_13_10, pC_21_0, pC_21_1, pC_21_2, pC_21_6, pC_21_7, pC_21_8, pC_21_9, pC_21_10, pC_29_0, pC_29_1, pC_29_2, pC_145_0, pC_145_1, pC_145_2, pC_145_3, pC_145_4, pC_149_0, pC_149_1, pC_149_2, pC_164_1, pC_164_2, pC_164_3, pC_168_0, pC_168_3, pC_168_4, pC_168_5, pC_172_0, pC_175_0, pC_175_2, pC_175_3, pC_175_5, pC_180_0, pC_180_2, pC_180_3, pC_180_5, g, (EqW_o en)]
      exact this
    · rw [if_neg q0]
      have hs : amx F f = if F (amx F (f - 1)) < F f then f else amx F (f - 1) := by
        obtain ⟨j, rfl⟩ : ∃ j, f = j + 1 := ⟨f - 1, by omega⟩
        rfl
      have := ihf (some (pI (F f)))
      rw [if_neg (by omega), hs] at this
      by_cases g : F (amx F (f - 1)) < F f
      · rw [if_pos g] at this
        have g1 : ¬ F f ≤ F (amx F (f - 1)) := by omega
        simp only [s_114_0, s_114_1, s_114_4, s_114_5, s_114_8, s_114_9, s_114_15, s_114_16, s_114_17, s_114_18, s_114_19, s_114_20, s_114_22, s_114_23, s_114_26, s_114_29, s_114_32, s_114_33, s_114_36, s_114_37, s_114_40, s_114_47, s_114_49, s_114_51, s_114_52, s_114_55, s_114_57, s_114_58, s_114_59, s_114_60, s_114_63, s_114_66, s_114_67, s_114_73, s_114_74, s_114_77, s_114_78, s_114_82, s_114_83, true_and, and_true, sc0, sc1, sc2, sc3, sc4, Option.toList, List.cons_append, List.nil_append, clr, ne_eq, not_false_eq_true, not_true_eq_false, false_and, and_false, true_or, or_true, or_false, false_or, forall_const, Nat.reduceEqDiff, List.length_nil, List.length_cons, Nat.zero_le, Nat.reduceAdd, Nat.reduceLeDiff, false_implies, true_implies, Int.reduceEq, Int.reduceNe, Int.reduceLT, Int.reduceLE, Int.reduceNeg, Int.reduceToNat, Int.toNat_natCast, Nat.reduceLT, and_self, Decidable.not_not, kC_0, kC_1, kC_2, kC_3, kC_4, kC_5, kC_6, kC_7, kC_8, kC_9, kC_10, kC_11, kC_12, kC_13, kC_14, kC_15, kC_16, kC_17, kC_18, kC_19, kC_20, kC_21, kC_22, kC_23, kC_24, kC_25, kC_26, kC_27, kC_28, kC_29, kC_30, kC_31, kC_32, kC_145, kC_146, kC_147, kC_148, kC_149, kC_150, kC_151, kC_164, kC_165, kC_166, kC_167, kC_168, kC_169, kC_170, kC_171, kC_172, kC_173, kC_174, kC_175, kC_176, kC_177, kC_178, kC_179, kC_180, kC_181, kC_182, kC_183, kC_184, pC_1_0, pC_1_2, pC_1_3, pC_1_4, pC_1_5, pC_1_6, pC_1_7, pC_1_8, pC_1_9, pC_1_10, pC_1_11, pC_3_5, pC_5_0, pC_5_1, pC_5_2, pC_5_6, pC_5_7, pC_5_8, pC_5_9, pC_5_10, pC_13_0, pC_13_1, pC_13_2, pC_13_6, pC_13_7, pC_13_8, pC_13_9, pC_13_10, pC_21_0, pC_21_1, pC_21_2, pC_21_6, pC_21_7, pC_21_8, pC_21_9, pC_21_10, pC_29_0, pC_29_1, pC_29_2, pC_145_0, pC_145_1, pC_145_2, pC_145_3, pC_145_4, pC_149_0, pC_149_1, pC_149_2, pC_164_1, pC_164_2, pC_164_3, pC_168_0, pC_168_3, pC_168_4, pC_168_5, pC_172_0, pC_175_0, pC_175_2, pC_175_3, pC_175_5, pC_180_0, pC_180_2, pC_180_3, pC_180_5, g1, (EqW_o en)]
        exact this
      · rw [if_neg g] at this
        have g1 : F f ≤ F (amx F (f - 1)) := by omega
        simp only [s_114_0, s_114_1, s_114_4, s_114_5, s_114_8, s_114_9, s_114_15, s_114_16, s_114_17, s_114_18, s_114_19, s_114_20, s_114_22, s_114_23, s_114_26, s_114_29, s_114_32, s_114_33, s_114_36, s_114_37, s_114_40, s_114_47, s_114_49, s_114_51, s_114_52, s_114_55, s_114_57, s_114_58, s_114_59, s_114_60, s_114_63, s_114_66, s_114_67, s_114_73, s_114_74, s_114_77, s_114_78, s_114_82, s_114_83, true_and, and_true, sc0, sc1, sc2, sc3, sc4, Option.toList, List.cons_append, List.nil_append, clr, ne_eq, not_false_eq_true, not_true_eq_false, false_and, and_false, true_or, or_true, or_false, false_or, forall_const, Nat.reduceEqDiff, List.length_nil, List.length_cons, Nat.zero_le, Nat.reduceAdd, Nat.reduceLeDiff, false_implies, true_implies, Int.reduceEq, Int.reduceNe, Int.reduceLT, Int.reduceLE, Int.reduceNeg, Int.reduceToNat, Int.toNat_natCast, Nat.reduceLT, and_self, Decidable.not_not, kC_0, kC_1, kC_2, kC_3, kC_4, kC_5, kC_6, kC_7, kC_8, kC_9, kC_10, kC_11, kC_12, kC_13, kC_14, kC_15, kC_16, kC_17, kC_18, kC_19, kC_20, kC_21, kC_22, kC_23, kC_24, kC_25, kC_26, kC_27, kC_28, kC_29, kC_30, kC_31, kC_32, kC_145, kC_146, kC_147, kC_148, kC_149, kC_150, kC_151, kC_164, kC_165, kC_166, kC_167, kC_168, kC_169, kC_170, kC_171, kC_172, kC_173, kC_174, kC_175, kC_176, kC_177, kC_178, kC_179, kC_180, kC_181, kC_182, kC_183, kC_184, pC_1_0, pC_1_2, pC_1_3, pC_1_4, pC_1_5, pC_1_6, pC_1_7, pC_1_8, pC_1_9, pC_1_10, pC_1_11, pC_3_5, pC_5_0, pC_5_1, pC_5_2, pC_5_6, pC_5_7, pC_5_8, pC_5_9, pC_5_10, pC_13_0, pC_13_1, pC_13_2, pC_13_6, pC_13_7, pC_13_8, pC_13_9, pC_13_10, pC_21_0, pC_21_1, pC_21_2, pC_21_6, pC_21_7, pC_21_8, pC_21_9, pC_21_10, pC_29_0, pC_29_1, pC_29_2, pC_145_0, pC_145_1, pC_145_2, pC_145_3, pC_145_4, pC_149_0, pC_149_1, pC_149_2, pC_164_1, pC_164_2, pC_164_3, pC_168_0, pC_168_3, pC_168_4, pC_168_5, pC_172_0, pC_175_0, pC_175_2, pC_175_3, pC_175_5, pC_180_0, pC_180_2, pC_180_3, pC_180_5, g1, (EqW_o en)]
        exact this
theorem c_hard {g f : Int} (h : WdC M b r c z n A B V u) : Cw 4 40 [pR 1, pI g, pI f] LC (PC b) M (QC b M (pI (qHard z n V A g f)) none) := by
  refine Cw_k [some (pR 1), some (pI g), some (pI f)] (Nat.le_of_ble_eq_true rfl) rfl (fun d hd Q X hQ => ?_)
  obtain ⟨hG, hS, hV, hR, _⟩ := h
  have hn6 := hV.1
  have hz := GrC_z hG
  have hsh := c_Shas (b := b) (M := M) (g := g) now_st
  rw [hS.2.2.2.1] at hsh
  have hgh := c_Ghas (b := b) (M := M) (f := f)
  rw [GrC_s hG] at hgh
  unfold qHard at hQ
  simp only [s_40_0, s_40_1, s_40_4, s_40_8, s_40_11, s_40_12, s_40_15, s_40_19, s_40_22, s_40_23, s_40_24, s_40_25, s_40_28, s_40_29, s_40_32, s_40_33, s_40_34, s_40_35, s_40_38, s_40_45, true_and, and_true, sc0, sc1, sc2, sc3, sc4, Option.toList, List.cons_append, List.nil_append, clr, ne_eq, not_false_eq_true, not_true_eq_false, false_and, and_false, true_or, or_true, or_false, false_or, forall_const, Nat.reduceEqDiff, List.length_nil, List.length_cons, Nat.zero_le, Nat.reduceAdd, Nat.reduceLeDiff, false_implies, true_implies, Int.reduceEq, Int.reduceNe, Int.reduceLT, Int.reduceLE, Int.reduceNeg, Int.reduceToNat, Int.toNat_natCast, Nat.reduceLT, and_self, Decidable.not_not, kC_0, kC_1, kC_2, kC_3, kC_4, kC_5, kC_6, kC_7, kC_8, kC_9, kC_10, kC_11, kC_12, kC_13, kC_14, kC_15, kC_16, kC_17, kC_18, kC_19, kC_20, kC_21, kC_22, kC_23, kC_24, kC_25, kC_26, kC_27, kC_28, kC_29, kC_30, kC_31, kC_32, kC_145, kC_146, kC_147, kC_148, kC_149, kC_150, kC_151, kC_164, kC_165, kC_166, kC_167, kC_168, kC_169, kC_170, kC_171, kC_172, kC_173, kC_174, kC_175, kC_176, kC_177, kC_178, kC_179, kC_180, kC_181, kC_182, kC_183, kC_184, pC_1_0, pC_1_2, pC_1_3, pC_1_4, pC_1_5, pC_1_6, pC_1_7, pC_1_8, pC_1_9, pC_1_10, pC_1_11, pC_3_5, pC_5_0, pC_5_1, pC_5_2, pC_5_6, pC_5_7, pC_5_8, pC_5_9, pC_5_10, pC_13_0, pC_13_1, pC_13_2, pC_13_6, pC_13_7, pC_13_8, pC_13_9, pC_13_10, pC_21_0, pC_21_1, pC_21_2, pC_21_6, pC_21_7, pC_21_8, pC_21_9, pC_21_10, pC_29_0, pC_29_1, pC_29_2, pC_145_0, pC_145_1, pC_145_2, pC_145_3, pC_145_4, pC_149_0, pC_149_1, pC_149_2, pC_164_1, pC_164_2, pC_164_3, pC_168_0, pC_168_3, pC_168_4, pC_168_5, pC_172_0, pC_175_0, pC_175_2, pC_175_3, pC_175_5, pC_180_0, pC_180_2, pC_180_3, pC_180_5]
  refine s_40_5 (Nat.le_of_ble_eq_true rfl) kC_5 (hsh d (by omega)) ?_
  by_cases c1 : 0 ≤ g ∧ g < (n : Int)
  case neg =>
    rw [if_neg (fun w => c1 w.1)] at hQ
    rw [if_neg c1]
    simp only [s_40_0, s_40_1, s_40_4, s_40_8, s_40_11, s_40_12, s_40_15, s_40_19, s_40_22, s_40_23, s_40_24, s_40_25, s_40_28, s_40_29, s_40_32, s_40_33, s_40_34, s_40_35, s_40_38, s_40_45, true_and, and_true, sc0, sc1, sc2, sc3, sc4, Option.toList, List.cons_append, List.nil_append, clr, ne_eq, not_false_eq_true, not_true_eq_false, false_and, and_false, true_or, or_true, or_false, false_or, forall_const, Nat.reduceEqDiff, List.length_nil, List.length_cons, Nat.zero_le, Nat.reduceAdd, Nat.reduceLeDiff, false_implies, true_implies, Int.reduceEq, Int.reduceNe, Int.reduceLT, Int.reduceLE, Int.reduceNeg, Int.reduceToNat, Int.toNat_natCast, Nat.reduceLT, and_self, Decidable.not_not, kC_0, kC_1, kC_2, kC_3, kC_4, kC_5, kC_6, kC_7, kC_8, kC_9, kC_10, kC_11, kC_12, kC_13, kC_14, kC_15, kC_16, kC_17, kC_18, kC_19, kC_20, kC_21, kC_22, kC_23, kC_24, kC_25, kC_26, kC_27, kC_28, kC_29, kC_30, kC_31, kC_32, kC_145, kC_146, kC_147, kC_148, kC_149, kC_150, kC_151, kC_164, kC_165, kC_166, kC_167, kC_168, kC_169, kC_170, kC_171, kC_172, kC_173, kC_174, kC_175, kC_176, kC_177, kC_178, kC_179, kC_180, kC_181, kC_182, kC_183, kC_184, pC_1_0, pC_1_2, pC_1_3, pC_1_4, pC_1_5, pC_1_6, pC_1_7, pC_1_8, pC_1_9, pC_1_10, pC_1_11, pC_3_5, pC_5_0, pC_5_1, pC_5_2, pC_5_6, pC_5_7, pC_5_8, pC_5_9, pC_5_10, pC_13_0, pC_13_1, pC_13_2, pC_13_6, pC_13_7, pC_13_8, pC_13_9, pC_13_10, pC_21_0, pC_21_1, pC_21_2, pC_21_6, pC_21_7, pC_21_8, pC_21_9, pC_21_10, pC_29_0, pC_29_1, pC_29_2, pC_145_0, pC_145_1, pC_145_2, pC_145_3, pC_145_4, pC_149_0, pC_149_1, pC_149_2, pC_164_1, pC_164_2, pC_164_3, pC_168_0, pC_168_3, pC_168_4, pC_168_5, pC_172_0, pC_175_0, pC_175_2, pC_175_3, pC_175_5, pC_180_0, pC_180_2, pC_180_3, pC_180_5]
    exact hQ _ _ _ (QC_n Sq_r rfl rfl)
  rw [if_pos c1]
  simp only [s_40_0, s_40_1, s_40_4, s_40_8, s_40_11, s_40_12, s_40_15, s_40_19, s_40_22, s_40_23, s_40_24, s_40_25, s_40_28, s_40_29, s_40_32, s_40_33, s_40_34, s_40_35, s_40_38, s_40_45, true_and, and_true, sc0, sc1, sc2, sc3, sc4, Option.toList, List.cons_append, List.nil_append, clr, ne_eq, not_false_eq_true, not_true_eq_false, false_and, and_false, true_or, or_true, or_false, false_or, forall_const, Nat.reduceEqDiff, List.length_nil, List.length_cons, Nat.zero_le, Nat.reduceAdd, Nat.reduceLeDiff, false_implies, true_implies, Int.reduceEq, Int.reduceNe, Int.reduceLT, Int.reduceLE, Int.reduceNeg, Int.reduceToNat, Int.toNat_natCast, Nat.reduceLT, and_self, Decidable.not_not, kC_0, kC_1, kC_2, kC_3, kC_4, kC_5, kC_6, kC_7, kC_8, kC_9, kC_10, kC_11, kC_12, kC_13, kC_14, kC_15, kC_16, kC_17, kC_18, kC_19, kC_20, kC_21, kC_22, kC_23, kC_24, kC_25, kC_26, kC_27, kC_28, kC_29, kC_30, kC_31, kC_32, kC_145, kC_146, kC_147, kC_148, kC_149, kC_150, kC_151, kC_164, kC_165, kC_166, kC_167, kC_168, kC_169, kC_170, kC_171, kC_172, kC_173, kC_174, kC_175, kC_176, kC_177, kC_178, kC_179, kC_180, kC_181, kC_182, kC_183, kC_184, pC_1_0, pC_1_2, pC_1_3, pC_1_4, pC_1_5, pC_1_6, pC_1_7, pC_1_8, pC_1_9, pC_1_10, pC_1_11, pC_3_5, pC_5_0, pC_5_1, pC_5_2, pC_5_6, pC_5_7, pC_5_8, pC_5_9, pC_5_10, pC_13_0, pC_13_1, pC_13_2, pC_13_6, pC_13_7, pC_13_8, pC_13_9, pC_13_10, pC_21_0, pC_21_1, pC_21_2, pC_21_6, pC_21_7, pC_21_8, pC_21_9, pC_21_10, pC_29_0, pC_29_1, pC_29_2, pC_145_0, pC_145_1, pC_145_2, pC_145_3, pC_145_4, pC_149_0, pC_149_1, pC_149_2, pC_164_1, pC_164_2, pC_164_3, pC_168_0, pC_168_3, pC_168_4, pC_168_5, pC_172_0, pC_175_0, pC_175_2, pC_175_3, pC_175_5, pC_180_0, pC_180_2, pC_180_3, pC_180_5]
  refine s_40_16 (Nat.le_of_ble_eq_true rfl) kC_3 (hgh d (by omega)) ?_
  by_cases c2 : 0 ≤ f ∧ f < (z : Int)
  case neg =>
    rw [if_neg (fun w => c2 w.2)] at hQ
    rw [if_neg c2]
    simp only [s_40_0, s_40_1, s_40_4, s_40_8, s_40_11, s_40_12, s_40_15, s_40_19, s_40_22, s_40_23, s_40_24, s_40_25, s_40_28, s_40_29, s_40_32, s_40_33, s_40_34, s_40_35, s_40_38, s_40_45, true_and, and_true, sc0, sc1, sc2, sc3, sc4, Option.toList, List.cons_append, List.nil_append, clr, ne_eq, not_false_eq_true, not_true_eq_false, false_and, and_false, true_or, or_true, or_false, false_or, forall_const, Nat.reduceEqDiff, List.length_nil, List.length_cons, Nat.zero_le, Nat.reduceAdd, Nat.reduceLeDiff, false_implies, true_implies, Int.reduceEq, Int.reduceNe, Int.reduceLT, Int.reduceLE, Int.reduceNeg, Int.reduceToNat, Int.toNat_natCast, Nat.reduceLT, and_self, Decidable.not_not, kC_0, kC_1, kC_2, kC_3, kC_4, kC_5, kC_6, kC_7, kC_8, kC_9, kC_10, kC_11, kC_12, kC_13, kC_14, kC_15, kC_16, kC_17, kC_18, kC_19, kC_20, kC_21, kC_22, kC_23, kC_24, kC_25, kC_26, kC_27, kC_28, kC_29, kC_30, kC_31, kC_32, kC_145, kC_146, kC_147, kC_148, kC_149, kC_150, kC_151, kC_164, kC_165, kC_166, kC_167, kC_168, kC_169, kC_170, kC_171, kC_172, kC_173, kC_174, kC_175, kC_176, kC_177, kC_178, kC_179, kC_180, kC_181, kC_182, kC_183, kC_184, pC_1_0, pC_1_2, pC_1_3, pC_1_4, pC_1_5, pC_1_6, pC_1_7, pC_1_8, pC_1_9, pC_1_10, pC_1_11, pC_3_5, pC_5_0, pC_5_1, pC_5_2, pC_5_6, pC_5_7, pC_5_8, pC_5_9, pC_5_10, pC_13_0, pC_13_1, pC_13_2, pC_13_6, pC_13_7, pC_13_8, pC_13_9, pC_13_10, pC_21_0, pC_21_1, pC_21_2, pC_21_6, pC_21_7, pC_21_8, pC_21_9, pC_21_10, pC_29_0, pC_29_1, pC_29_2, pC_145_0, pC_145_1, pC_145_2, pC_145_3, pC_145_4, pC_149_0, pC_149_1, pC_149_2, pC_164_1, pC_164_2, pC_164_3, pC_168_0, pC_168_3, pC_168_4, pC_168_5, pC_172_0, pC_175_0, pC_175_2, pC_175_3, pC_175_5, pC_180_0, pC_180_2, pC_180_3, pC_180_5]
    exact hQ _ _ _ (QC_n Sq_r rfl rfl)
  rw [if_pos ⟨c1, c2⟩] at hQ
  rw [if_pos c2]
  obtain ⟨i, rfl⟩ : ∃ i : Nat, g = (i : Int) := ⟨g.toNat, by omega⟩
  obtain ⟨k, rfl⟩ : ∃ i : Nat, f = (i : Int) := ⟨f.toNat, by omega⟩
  have hi : i < n := by omega
  have hk : k < z := by omega
  rw [Int.toNat_natCast, Int.toNat_natCast] at hQ
  have vf := hV.2.1 k hk
  have hlk := c_isLocked (b := b) (M := M) (f := (k : Int)) now_st
  rw [hS.2.1, lk_bit hz.2 hk vf.2.2] at hlk
  obtain ⟨v, P2, N2, hE, hP, hv, hN2⟩ := c_hardness (b := b) (lk := A (72 + k)) qr_q now_st (show i < 6 by omega) (show k < 36 by omega) vf.2.2 hR d (by omega)
  subst hP
  rw [env_CA hS hV hk hi, ← hF_at (show k < 36 by omega)] at hv
  subst hv
  have hqn := qr_n (b := b)
  simp only [s_40_0, s_40_1, s_40_4, s_40_8, s_40_11, s_40_12, s_40_15, s_40_19, s_40_22, s_40_23, s_40_24, s_40_25, s_40_28, s_40_29, s_40_32, s_40_33, s_40_34, s_40_35, s_40_38, s_40_45, true_and, and_true, sc0, sc1, sc2, sc3, sc4, Option.toList, List.cons_append, List.nil_append, clr, ne_eq, not_false_eq_true, not_true_eq_false, false_and, and_false, true_or, or_true, or_false, false_or, forall_const, Nat.reduceEqDiff, List.length_nil, List.length_cons, Nat.zero_le, Nat.reduceAdd, Nat.reduceLeDiff, false_implies, true_implies, Int.reduceEq, Int.reduceNe, Int.reduceLT, Int.reduceLE, Int.reduceNeg, Int.reduceToNat, Int.toNat_natCast, Nat.reduceLT, and_self, Decidable.not_not, kC_0, kC_1, kC_2, kC_3, kC_4, kC_5, kC_6, kC_7, kC_8, kC_9, kC_10, kC_11, kC_12, kC_13, kC_14, kC_15, kC_16, kC_17, kC_18, kC_19, kC_20, kC_21, kC_22, kC_23, kC_24, kC_25, kC_26, kC_27, kC_28, kC_29, kC_30, kC_31, kC_32, kC_145, kC_146, kC_147, kC_148, kC_149, kC_150, kC_151, kC_164, kC_165, kC_166, kC_167, kC_168, kC_169, kC_170, kC_171, kC_172, kC_173, kC_174, kC_175, kC_176, kC_177, kC_178, kC_179, kC_180, kC_181, kC_182, kC_183, kC_184, pC_1_0, pC_1_2, pC_1_3, pC_1_4, pC_1_5, pC_1_6, pC_1_7, pC_1_8, pC_1_9, pC_1_10, pC_1_11, pC_3_5, pC_5_0, pC_5_1, pC_5_2, pC_5_6, pC_5_7, pC_5_8, pC_5_9, pC_5_10, pC_13_0, pC_13_1, pC_13_2, pC_13_6, pC_13_7, pC_13_8, pC_13_9, pC_13_10, pC_21_0, pC_21_1, pC_21_2, pC_21_6, pC_21_7, pC_21_8, pC_21_9, pC_21_10, pC_29_0, pC_29_1, pC_29_2, pC_145_0, pC_145_1, pC_145_2, pC_145_3, pC_145_4, pC_149_0, pC_149_1, pC_149_2, pC_164_1, pC_164_2, pC_164_3, pC_168_0, pC_168_3, pC_168_4, pC_168_5, pC_172_0, pC_175_0, pC_175_2, pC_175_3, pC_175_5, pC_180_0, pC_180_2, pC_180_3, pC_180_5, qr_p, qr_0]
  refine s_40_39 (Nat.le_of_ble_eq_true rfl) kC_5 (hlk d (by omega)) ?_
  simp only [s_40_0, s_40_1, s_40_4, s_40_8, s_40_11, s_40_12, s_40_15, s_40_19, s_40_22, s_40_23, s_40_24, s_40_25, s_40_28, s_40_29, s_40_32, s_40_33, s_40_34, s_40_35, s_40_38, s_40_45, true_and, and_true, sc0, sc1, sc2, sc3, sc4, Option.toList, List.cons_append, List.nil_append, clr, ne_eq, not_false_eq_true, not_true_eq_false, false_and, and_false, true_or, or_true, or_false, false_or, forall_const, Nat.reduceEqDiff, List.length_nil, List.length_cons, Nat.zero_le, Nat.reduceAdd, Nat.reduceLeDiff, false_implies, true_implies, Int.reduceEq, Int.reduceNe, Int.reduceLT, Int.reduceLE, Int.reduceNeg, Int.reduceToNat, Int.toNat_natCast, Nat.reduceLT, and_self, Decidable.not_not, kC_0, kC_1, kC_2, kC_3, kC_4, kC_5, kC_6, kC_7, kC_8, kC_9, kC_10, kC_11, kC_12, kC_13, kC_14, kC_15, kC_16, kC_17, kC_18, kC_19, kC_20, kC_21, kC_22, kC_23, kC_24, kC_25, kC_26, kC_27, kC_28, kC_29, kC_30, kC_31, kC_32, kC_145, kC_146, kC_147, kC_148, kC_149, kC_150, kC_151, kC_164, kC_165, kC_166, kC_167, kC_168, kC_169, kC_170, kC_171, kC_172, kC_173, kC_174, kC_175, kC_176, kC_177, kC_178, kC_179, kC_180, kC_181, kC_182, kC_183, kC_184, pC_1_0, pC_1_2, pC_1_3, pC_1_4, pC_1_5, pC_1_6, pC_1_7, pC_1_8, pC_1_9, pC_1_10, pC_1_11, pC_3_5, pC_5_0, pC_5_1, pC_5_2, pC_5_6, pC_5_7, pC_5_8, pC_5_9, pC_5_10, pC_13_0, pC_13_1, pC_13_2, pC_13_6, pC_13_7, pC_13_8, pC_13_9, pC_13_10, pC_21_0, pC_21_1, pC_21_2, pC_21_6, pC_21_7, pC_21_8, pC_21_9, pC_21_10, pC_29_0, pC_29_1, pC_29_2, pC_145_0, pC_145_1, pC_145_2, pC_145_3, pC_145_4, pC_149_0, pC_149_1, pC_149_2, pC_164_1, pC_164_2, pC_164_3, pC_168_0, pC_168_3, pC_168_4, pC_168_5, pC_172_0, pC_175_0, pC_175_2, pC_175_3, pC_175_5, pC_180_0, pC_180_2, pC_180_3, pC_180_5]
  refine s_40_42 (Nat.le_of_ble_eq_true rfl) (ru_k qr_q) hE ?_
  simp only [s_40_0, s_40_1, s_40_4, s_40_8, s_40_11, s_40_12, s_40_15, s_40_19, s_40_22, s_40_23, s_40_24, s_40_25, s_40_28, s_40_29, s_40_32, s_40_33, s_40_34, s_40_35, s_40_38, s_40_45, true_and, and_true, sc0, sc1, sc2, sc3, sc4, Option.toList, List.cons_append, List.nil_append, clr, ne_eq, not_false_eq_true, not_true_eq_false, false_and, and_false, true_or, or_true, or_false, false_or, forall_const, Nat.reduceEqDiff, List.length_nil, List.length_cons, Nat.zero_le, Nat.reduceAdd, Nat.reduceLeDiff, false_implies, true_implies, Int.reduceEq, Int.reduceNe, Int.reduceLT, Int.reduceLE, Int.reduceNeg, Int.reduceToNat, Int.toNat_natCast, Nat.reduceLT, and_self, Decidable.not_not, kC_0, kC_1, kC_2, kC_3, kC_4, kC_5, kC_6, kC_7, kC_8, kC_9, kC_10, kC_11, kC_12, kC_13, kC_14, kC_15, kC_16, kC_17, kC_18, kC_19, kC_20, kC_21, kC_22, kC_23, kC_24, kC_25, kC_26, kC_27, kC_28, kC_29, kC_30, kC_31, kC_32, kC_145, kC_146, kC_147, kC_148, kC_149, kC_150, kC_151, kC_164, kC_165, kC_166, kC_167, kC_168, kC_169, kC_170, kC_171, kC_172, kC_173, kC_174, kC_175, kC_176, kC_177, kC_178, kC_179, kC_180, kC_181, kC_182, kC_183, kC_184, pC_1_0, pC_1_2, pC_1_3, pC_1_4, pC_1_5, pC_1_6, pC_1_7, pC_1_8, pC_1_9, pC_1_10, pC_1_11, pC_3_5, pC_5_0, pC_5_1, pC_5_2, pC_5_6, pC_5_7, pC_5_8, pC_5_9, pC_5_10, pC_13_0, pC_13_1, pC_13_2, pC_13_6, pC_13_7, pC_13_8, pC_13_9, pC_13_10, pC_21_0, pC_21_1, pC_21_2, pC_21_6, pC_21_7, pC_21_8, pC_21_9, pC_21_10, pC_29_0, pC_29_1, pC_29_2, pC_145_0, pC_145_1, pC_145_2, pC_145_3, pC_145_4, pC_149_0, pC_149_1, pC_149_2, pC_164_1, pC_164_2, pC_164_3, pC_168_0, pC_168_3, pC_168_4, pC_168_5, pC_172_0, pC_175_0, pC_175_2, pC_175_3, pC_175_5, pC_180_0, pC_180_2, pC_180_3, pC_180_5]
  exact hQ _ _ _ (QC_n (Sq_s hN2 (fun p hp => by simp at hp; rw [hp]; exact qr_scr.2.2)) (hN2 172 (by simp; omega)) (hN2 173 (by simp; omega)))
theorem SnC_rg {g k : Nat} (hS : SnC M 13 A B z n) (hz : z ≤ 36) (hn : n ≤ 6) (hg : g < n) {M' : MM} (h1 : ∀ p, p ≠ 18 → M' p = M p) (h2 : ∀ j, j ≠ g → M' 18 j = M 18 j) (h3 : M' 18 g = bOr (A (114 + g)) ((2 ^ k : Nat) : Int)) : SnC M' 13 (rgU A g k) B z n := by
  obtain ⟨a1, a2, a3, a4, a5⟩ := hS
  refine ⟨fun f hf => ?_, ?_, ?_, ?_, fun j hj => ?_⟩
  · rw [h1 (13 + 1) (by decide), h1 (13 + 2) (by decide)]
    unfold rgU
    rw [if_neg (by omega), if_neg (by omega)]; exact a1 f hf
  · rw [h1 13 (by decide), a2]
    congr 1
    refine bs_cg (fun f hf => ?_)
    unfold rgU
    rw [if_neg (by omega)]
  · rw [h1 13 (by decide)]; unfold rgU; rw [if_neg (by omega)]; exact a3
  · rw [h1 13 (by decide)]; exact a4
  · obtain ⟨b1, b2, b3, b4, b5⟩ := a5 j hj
    rw [h1 (13 + 3) (by decide), h1 (13 + 4) (by decide), h1 (13 + 6) (by decide), h1 (13 + 7) (by decide)]
    unfold rgU
    rw [if_neg (show ¬ 108 + j = 114 + g by omega), if_neg (show ¬ 120 + j = 114 + g by omega), if_neg (show ¬ 126 + j = 114 + g by omega)]
    refine ⟨b1, b2, ?_, b4, b5⟩
    by_cases e : j = g
    · subst e; rw [if_pos rfl]; exact h3
    · rw [if_neg (by omega)]
      show M' 18 j = _
      rw [h2 j e]; exact b3
end
