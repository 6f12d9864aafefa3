/-! the flood: what can be reached -/
def wid (c nl nf can x : Nat) : Nat := (((x ||| (((x &&& nl) * 2 ^ 1) ||| ((x &&& nf) / 2 ^ 1))) ||| (x * 2 ^ c)) ||| (x / 2 ^ c)) &&& can
theorem wid_bit {c nl nf can x n : Nat} : (wid c nl nf can x).testBit n = ((((x.testBit n || ((decide (1 ≤ n) && (x.testBit (n - 1) && nl.testBit (n - 1))) || (x.testBit (n + 1) && nf.testBit (n + 1)))) || (decide (c ≤ n) && x.testBit (n - c))) || x.testBit (n + c)) && can.testBit n) := by
  unfold wid
  simp only [Nat.testBit_and, Nat.testBit_or, Nat.testBit_mul_two_pow, Nat.testBit_div_two_pow]
section
variable {c z s : Nat} {p : Nat → Bool}
theorem wid_in (hL : Lnd c z) {x n : Nat} (hx : ∀ f, x.testBit f = true → f < z) : (wid c (bs (fun f => decide (f % c ≠ c - 1)) z) (bs (fun f => decide (f % c ≠ 0)) z) (bs p z) x).testBit n = true ↔ (n < z ∧ p n = true) ∧ (x.testBit n = true ∨ ∃ f, x.testBit f = true ∧ Nbr c z f n) := by
  obtain ⟨hc1, hc6, hz36, r, hr1, hr6, hzr⟩ := hL
  rw [wid_bit, bs_bit, bs_bit, bs_bit]
  simp only [Bool.and_eq_true, Bool.or_eq_true, decide_eq_true_eq]
  constructor
  · rintro ⟨h, hn, hp⟩
    refine ⟨⟨hn, hp⟩, ?_⟩
    rcases h with (((h | (⟨h1, h2, h3, h4⟩ | ⟨h2, h3, h4⟩)) | ⟨h1, h2⟩) | h2)
    · exact Or.inl h
    · exact Or.inr ⟨n - 1, h2, 2, by decide, by rw [bsd_2, if_neg h4]; omega⟩
    · exact Or.inr ⟨n + 1, h2, 1, by decide, by rw [bsd_1, if_neg h4]; omega⟩
    · exact Or.inr ⟨n - c, h2, 3, by decide, by rw [bsd_3, if_pos (by omega)]; omega⟩
    · exact Or.inr ⟨n + c, h2, 0, by decide, by rw [bsd_0, if_pos (by omega)]; omega⟩
  · rintro ⟨⟨hn, hp⟩, h⟩
    refine ⟨?_, hn, hp⟩
    rcases h with h | ⟨f, hf, d, hd, hb⟩
    · exact Or.inl (Or.inl (Or.inl h))
    · have hfz := hx f hf
      have : d = 0 ∨ d = 1 ∨ d = 2 ∨ d = 3 := by omega
      rcases this with rfl | rfl | rfl | rfl
      · rw [bsd_0] at hb
        split at hb
        · have e : f = n + c := by omega
          subst e; exact Or.inr hf
        · omega
      · rw [bsd_1] at hb
        split at hb
        · omega
        · rename_i g
          have f1 : 1 ≤ f := by
            rcases Nat.eq_zero_or_pos f with e | e
            · subst e; exact absurd (Nat.zero_mod c) g
            · exact e
          have e : f = n + 1 := by omega
          subst e
          exact Or.inl (Or.inl (Or.inr (Or.inr ⟨hf, hfz, g⟩)))
      · rw [bsd_2] at hb
        split at hb
        · omega
        · rename_i g
          have e : f = n - 1 := by omega
          subst e
          exact Or.inl (Or.inl (Or.inr (Or.inl ⟨by omega, hf, hfz, g⟩)))
      · rw [bsd_3] at hb
        split at hb
        · have e : f = n - c := by omega
          subst e
          exact Or.inl (Or.inr ⟨by omega, hf⟩)
        · omega
end
theorem cnt_eqz {p : Nat → Bool} : ∀ {n : Nat}, n ≤ cnt p n → ∀ k, k < n → p k = true
  | 0, _, k, hk => absurd hk (Nat.not_lt_zero _)
  | n + 1, h, k, hk => by
    have h1 := cnt_le p n
    unfold cnt at h
    have h2 : (p n).toNat ≤ 1 := by cases p n <;> decide
    by_cases e : k = n
    · subst e
      cases hp : p k
      · rw [hp] at h; simp at h; omega
      · rfl
    · exact cnt_eqz (n := n) (by omega) k (by omega)
noncomputable def rcB (c z : Nat) (p : Nat → Bool) (s f : Nat) : Bool := @decide (Rch c z (fun f => p f = true) s f) (Classical.propDecidable _)
theorem rcB_t {c z s f : Nat} {p : Nat → Bool} : rcB c z p s f = true ↔ Rch c z (fun f => p f = true) s f := by
  unfold rcB
  exact @decide_eq_true_iff _ (Classical.propDecidable _)
theorem rcB_f {c z s f : Nat} {p : Nat → Bool} (h : ¬ Rch c z (fun f => p f = true) s f) : rcB c z p s f = false := by
  cases e : rcB c z p s f
  · rfl
  · exact absurd (rcB_t.mp e) h
section
variable {M : MM} {b : Bool} {r c z s : Nat} {p : Nat → Bool}
theorem c_flood (hG : GrC M r c z) (hs : s < z) : Ct 1 100 [pR 3, pL ((bs p z : Nat) : Int), pI (s : Int)] LC (PC b) M (some (pL ((bs (rcB c z p s) z : Nat) : Int))) (PC b) M := by
  refine Ct_r [some (pR 3), some (pL ((bs p z : Nat) : Int)), none, some (pI (s : Int)), none, none, none, none, none, none, none] (Nat.le_of_ble_eq_true rfl) rfl (fun d hd Q X hq => ?_)
  have hz := GrC_z hG
  have hL := GrC_L hG
  have hsz := GrC_s hG
  obtain ⟨_, hr1, hr6, hc1, hc6, g0, g1, _, _, g3, g4⟩ := hG
  have hbp : bs p z < 2 ^ 36 := Nat.lt_of_lt_of_le (bs_lt p z) (Nat.pow_le_pow_right (by decide) hz.2)
  have hbn : bs (fun f => decide (f % c ≠ 0)) z < 2 ^ 36 := Nat.lt_of_lt_of_le (bs_lt _ z) (Nat.pow_le_pow_right (by decide) hz.2)
  have hbl : bs (fun f => decide (f % c ≠ c - 1)) z < 2 ^ 36 := Nat.lt_of_lt_of_le (bs_lt _ z) (Nat.pow_le_pow_right (by decide) hz.2)
  have e0 : EqW (lAnd ((bs p z : Nat) : Int) (lShl 1 (s : Int))) (((bs p z &&& 2 ^ s : Nat) : Int)) := EqW_i <| by
    rw [one_shl (by omega), lAnd_n (by omega)]
  simp only [s_100_0, s_100_1, s_100_2, s_100_3, s_100_4, s_100_5, s_100_7, s_100_8, s_100_12, s_100_13, s_100_16, s_100_19, s_100_21, s_100_22, s_100_25, s_100_26, s_100_27, s_100_28, s_100_30, s_100_31, s_100_34, s_100_35, s_100_36, s_100_37, s_100_38, s_100_40, s_100_42, s_100_44, s_100_45, s_100_47, s_100_48, s_100_51, s_100_52, s_100_53, s_100_55, s_100_56, s_100_59, s_100_60, s_100_61, s_100_62, s_100_63, s_100_65, s_100_67, s_100_69, s_100_70, s_100_73, s_100_76, s_100_78, s_100_80, s_100_83, s_100_86, s_100_88, true_and, and_true, sc0, sc1, sc2, sc3, sc4, Option.toList, List.cons_append, List.nil_append, clr, ne_eq, not_false_eq_true, not_true_eq_false, false_and, and_false, true_or, or_true, or_false, false_or, forall_const, Nat.reduceEqDiff, List.length_nil, List.length_cons, Nat.zero_le, Nat.reduceAdd, Nat.reduceLeDiff, false_implies, true_implies, Int.reduceEq, Int.reduceNe, Int.reduceLT, Int.reduceLE, Int.reduceNeg, Int.reduceToNat, Int.toNat_natCast, Nat.reduceLT, and_self, Decidable.not_not, kC_0, kC_1, kC_2, kC_3, kC_4, kC_5, kC_6, kC_7, kC_8, kC_9, kC_10, kC_11, kC_12, kC_13, kC_14, kC_15, kC_16, kC_17, kC_18, kC_19, kC_20, kC_21, kC_22, kC_23, kC_24, kC_25, kC_26, kC_27, kC_28, kC_29, kC_30, kC_31, kC_32, kC_145, kC_146, kC_147, kC_148, kC_149, kC_150, kC_151, kC_164, kC_165, kC_166, kC_167, kC_168, kC_169, kC_170, kC_171, kC_172, kC_173, kC_174, kC_175, kC_176, kC_177, kC_178, kC_179, kC_180, kC_181, kC_182, kC_183, kC_184, pC_1_0, pC_1_2, pC_1_3, pC_1_4, pC_1_5, pC_1_6, pC_1_7, pC_1_8, pC_1_9, pC_1_10, pC_1_11, pC_3_5, pC_5_0, pC_5_1, pC_5_2, pC_5_6, pC_5_7, pC_5_8, pC_5_9, pC_5_10, pC_13_0, pC_13_1, pC_13_2, pC_13_6, pC_13_7, pC_13_8, pC_13_9, pC_13_10, pC_21_0, pC_21_1, pC_21_2, pC_21_6, pC_21_7, pC_21_8, pC_21_9, pC_21_10, pC_29_0, pC_29_1, pC_29_2, pC_145_0, pC_145_1, pC_145_2, pC_145_3, pC_145_4, pC_149_0, pC_149_1, pC_149_2, pC_164_1, pC_164_2, pC_164_3, pC_168_0, pC_168_3, pC_168_4, pC_168_5, pC_172_0, pC_175_0, pC_175_2, pC_175_3, pC_175_5, pC_180_0, pC_180_2, pC_180_3, pC_180_5, (EqW_o e0)]
  let Inv : Nat → Nat → Prop := fun i x => x < 2 ^ 36 ∧ (∀ f, x.testBit f = true → Rch c z (fun f => p f = true) s f) ∧ (p s = true → x.testBit s = true) ∧ i ≤ cnt x.testBit z
  have hend : ∀ x, x < 2 ^ 36 → (∀ f, x.testBit f = true → Rch c z (fun f => p f = true) s f) → (∀ f, Rch c z (fun f => p f = true) s f → x.testBit f = true) → x = bs (rcB c z p s) z := by
    intro x hx h1 h2
    apply Nat.eq_of_testBit_eq
    intro f
    rw [bs_bit]
    by_cases hR : Rch c z (fun f => p f = true) s f
    · rw [h2 f hR]; simp [rcB_t.mpr hR, (Rch_lt hL hs hR).1]
    · cases hxf : x.testBit f
      · simp [rcB_f hR]
      · exact absurd (h1 f hxf) hR
  refine lup (α := Nat × Option PV × Option PV × Option PV × Option PV) (I := fun i x => Inv i x.1) (G := fun i x => wpB (Ev d) 100 Q X 10 [some (pR 3), some (pL ((bs p z : Nat) : Int)), none, some (pI (s : Int)), some (pL (x.1 : Int)), none, some (pI (i : Int)), x.2.1, x.2.2.1, x.2.2.2.1, x.2.2.2.2] [] (kz LC) (PC b) M) z (fun x hx => ?_) (fun i x hi hx ih => ?_) 0 (bs p z &&& 2 ^ s, none, none, none, none) (Nat.zero_le _) ?_
  · obtain ⟨x, x1, x2, x3, x4⟩ := x
    obtain ⟨a1, a2, a3, a4⟩ := hx
    dsimp only at a1 a2 a3 a4 ⊢
    rw [s_100_10]
    simp only [s_100_0, s_100_1, s_100_2, s_100_3, s_100_4, s_100_5, s_100_7, s_100_8, s_100_12, s_100_13, s_100_16, s_100_19, s_100_21, s_100_22, s_100_25, s_100_26, s_100_27, s_100_28, s_100_30, s_100_31, s_100_34, s_100_35, s_100_36, s_100_37, s_100_38, s_100_40, s_100_42, s_100_44, s_100_45, s_100_47, s_100_48, s_100_51, s_100_52, s_100_53, s_100_55, s_100_56, s_100_59, s_100_60, s_100_61, s_100_62, s_100_63, s_100_65, s_100_67, s_100_69, s_100_70, s_100_73, s_100_76, s_100_78, s_100_80, s_100_83, s_100_86, s_100_88, true_and, and_true, sc0, sc1, sc2, sc3, sc4, Option.toList, List.cons_append, List.nil_append, clr, ne_eq, not_false_eq_true, not_true_eq_false, false_and, and_false, true_or, or_true, or_false, false_or, forall_const, Nat.reduceEqDiff, List.length_nil, List.length_cons, Nat.zero_le, Nat.reduceAdd, Nat.reduceLeDiff, false_implies, true_implies, Int.reduceEq, Int.reduceNe, Int.reduceLT, Int.reduceLE, Int.reduceNeg, Int.reduceToNat, Int.toNat_natCast, Nat.reduceLT, and_self, Decidable.not_not, kC_0, kC_1, kC_2, kC_3, kC_4, kC_5, kC_6, kC_7, kC_8, kC_9, kC_10, kC_11, kC_12, kC_13, kC_14, kC_15, kC_16, kC_17, kC_18, kC_19, kC_20, kC_21, kC_22, kC_23, kC_24, kC_25, kC_26, kC_27, kC_28, kC_29, kC_30, kC_31, kC_32, kC_145, kC_146, kC_147, kC_148, kC_149, kC_150, kC_151, kC_164, kC_165, kC_166, kC_167, kC_168, kC_169, kC_170, kC_171, kC_172, kC_173, kC_174, kC_175, kC_176, kC_177, kC_178, kC_179, kC_180, kC_181, kC_182, kC_183, kC_184, pC_1_0, pC_1_2, pC_1_3, pC_1_4, pC_1_5, pC_1_6, pC_1_7, pC_1_8, pC_1_9, pC_1_10, pC_1_11, pC_3_5, pC_5_0, pC_5_1, pC_5_2, pC_5_6, pC_5_7, pC_5_8, pC_5_9, pC_5_10, pC_13_0, pC_13_1, pC_13_2, pC_13_6, pC_13_7, pC_13_8, pC_13_9, pC_13_10, pC_21_0, pC_21_1, pC_21_2, pC_21_6, pC_21_7, pC_21_8, pC_21_9, pC_21_10, pC_29_0, pC_29_1, pC_29_2, pC_145_0, pC_145_1, pC_145_2, pC_145_3, pC_145_4, pC_149_0, pC_149_1, pC_149_2, pC_164_1, pC_164_2, pC_164_3, pC_168_0, pC_168_3, pC_168_4, pC_168_5, pC_172_0, pC_175_0, pC_175_2, pC_175_3, pC_175_5, pC_180_0, pC_180_2, pC_180_3, pC_180_5, hsz, Int.le_refl]
    have := hend x a1 a2 (fun f hf => cnt_eqz a4 f (Rch_lt hL hs hf).1)
    rw [this]
    exact hq
  · obtain ⟨x, x1, x2, x3, x4⟩ := x
    obtain ⟨a1, a2, a3, a4⟩ := hx
    dsimp only at a1 a2 a3 a4 ⊢
    have en := EqW_i (w32n (show i < 1000000 by omega))
    have ez : ¬ (z : Int) ≤ (i : Int) := by omega
    have l1 : (x &&& bs (fun f => decide (f % c ≠ c - 1)) z) < 2 ^ 36 := Nat.lt_of_le_of_lt Nat.and_le_left a1
    have l2 : (x &&& bs (fun f => decide (f % c ≠ 0)) z) < 2 ^ 36 := Nat.lt_of_le_of_lt Nat.and_le_left a1
    have hcp : 2 ^ c ≤ 2 ^ 6 := Nat.pow_le_pow_right (by decide) hc6
    have l3 : x * 2 ^ c < 2 ^ 42 := by
      have : x * 2 ^ c ≤ x * 2 ^ 6 := Nat.mul_le_mul_left _ hcp
      omega
    have l4 : x / 2 ^ c < 2 ^ 42 := Nat.lt_of_le_of_lt (Nat.div_le_self _ _) (by omega)
    have t1 : EqW (lAnd (x : Int) (M 3 4)) (((x &&& bs (fun f => decide (f % c ≠ c - 1)) z : Nat) : Int)) := EqW_i <| by rw [g4, lAnd_n (by omega)]
    have t2 : EqW (lAnd (x : Int) (M 3 3)) (((x &&& bs (fun f => decide (f % c ≠ 0)) z : Nat) : Int)) := EqW_i <| by rw [g3, lAnd_n (by omega)]
    have t3 : EqW (lShl ((x &&& bs (fun f => decide (f % c ≠ c - 1)) z : Nat) : Int) 1) ((((x &&& bs (fun f => decide (f % c ≠ c - 1)) z) * 2 ^ 1 : Nat) : Int)) := EqW_i <| lShl_n (k := 1) (by decide) (by omega)
    have t4 : EqW (lUshr ((x &&& bs (fun f => decide (f % c ≠ 0)) z : Nat) : Int) 1) ((((x &&& bs (fun f => decide (f % c ≠ 0)) z) / 2 ^ 1 : Nat) : Int)) := EqW_i <| lUshr_n (k := 1) (by omega) (by decide)
    have t5 : EqW (lShl (x : Int) (M 3 1)) (((x * 2 ^ c : Nat) : Int)) := EqW_i <| by rw [g1]; exact lShl_n (by omega) (by omega)
    have t6 : EqW (lUshr (x : Int) (M 3 1)) (((x / 2 ^ c : Nat) : Int)) := EqW_i <| by rw [g1]; exact lUshr_n (by omega) (by omega)
    have m1 : (x &&& bs (fun f => decide (f % c ≠ c - 1)) z) * 2 ^ 1 < 2 ^ 42 := by omega
    have m2 : (x &&& bs (fun f => decide (f % c ≠ 0)) z) / 2 ^ 1 < 2 ^ 42 := by omega
    have t7 : EqW (lOr (((x &&& bs (fun f => decide (f % c ≠ c - 1)) z) * 2 ^ 1 : Nat) : Int) (((x &&& bs (fun f => decide (f % c ≠ 0)) z) / 2 ^ 1 : Nat) : Int)) ((((x &&& bs (fun f => decide (f % c ≠ c - 1)) z) * 2 ^ 1 ||| (x &&& bs (fun f => decide (f % c ≠ 0)) z) / 2 ^ 1 : Nat) : Int)) := EqW_i <| lOr_n (by omega) (by omega)
    have m3 : (x &&& bs (fun f => decide (f % c ≠ c - 1)) z) * 2 ^ 1 ||| (x &&& bs (fun f => decide (f % c ≠ 0)) z) / 2 ^ 1 < 2 ^ 42 := Nat.or_lt_two_pow m1 m2
    generalize hA : (x &&& bs (fun f => decide (f % c ≠ c - 1)) z) * 2 ^ 1 ||| (x &&& bs (fun f => decide (f % c ≠ 0)) z) / 2 ^ 1 = Aa at t7 m3
    have t8 : EqW (lOr (x : Int) (Aa : Int)) (((x ||| Aa : Nat) : Int)) := EqW_i <| lOr_n (by omega) (by omega)
    have m4 : x ||| Aa < 2 ^ 42 := Nat.or_lt_two_pow (by omega) m3
    have t9 : EqW (lOr ((x ||| Aa : Nat) : Int) ((x * 2 ^ c : Nat) : Int)) ((((x ||| Aa) ||| x * 2 ^ c : Nat) : Int)) := EqW_i <| lOr_n (by omega) (by omega)
    have m5 : (x ||| Aa) ||| x * 2 ^ c < 2 ^ 42 := Nat.or_lt_two_pow m4 l3
    have t10 : EqW (lOr (((x ||| Aa) ||| x * 2 ^ c : Nat) : Int) ((x / 2 ^ c : Nat) : Int)) (((((x ||| Aa) ||| x * 2 ^ c) ||| x / 2 ^ c : Nat) : Int)) := EqW_i <| lOr_n (by omega) (by omega)
    have m6 : ((x ||| Aa) ||| x * 2 ^ c) ||| x / 2 ^ c < 2 ^ 42 := Nat.or_lt_two_pow m5 l4
    have t11 : EqW (lAnd ((((x ||| Aa) ||| x * 2 ^ c) ||| x / 2 ^ c : Nat) : Int) ((bs p z : Nat) : Int)) (((wid c (bs (fun f => decide (f % c ≠ c - 1)) z) (bs (fun f => decide (f % c ≠ 0)) z) (bs p z) x : Nat) : Int)) := EqW_i <| by
      rw [lAnd_n (by omega)]
      unfold wid
      rw [hA]
    have hxz : ∀ f, x.testBit f = true → f < z := fun f hf => (Rch_lt hL hs (a2 f hf)).1
    have hw := fun n => wid_in (p := p) (n := n) hL hxz
    have hwlt : wid c (bs (fun f => decide (f % c ≠ c - 1)) z) (bs (fun f => decide (f % c ≠ 0)) z) (bs p z) x < 2 ^ 36 := Nat.lt_of_le_of_lt Nat.and_le_right hbp
    generalize wid c (bs (fun f => decide (f % c ≠ c - 1)) z) (bs (fun f => decide (f % c ≠ 0)) z) (bs p z) x = y at t11 hw hwlt
    have hsub : ∀ f, x.testBit f = true → y.testBit f = true := fun f hf => (hw f).mpr ⟨Rch_lt hL hs (a2 f hf), Or.inl hf⟩
    rw [s_100_10]
    by_cases e : y = x
    · subst e
      have ec : ¬ lCmp (y : Int) (y : Int) ≠ 0 := by unfold lCmp; simp
      have ec2 : EqW (lCmp (y : Int) (y : Int)) (0) := EqW_i <| by unfold lCmp; simp
      simp only [s_100_0, s_100_1, s_100_2, s_100_3, s_100_4, s_100_5, s_100_7, s_100_8, s_100_12, s_100_13, s_100_16, s_100_19, s_100_21, s_100_22, s_100_25, s_100_26, s_100_27, s_100_28, s_100_30, s_100_31, s_100_34, s_100_35, s_100_36, s_100_37, s_100_38, s_100_40, s_100_42, s_100_44, s_100_45, s_100_47, s_100_48, s_100_51, s_100_52, s_100_53, s_100_55, s_100_56, s_100_59, s_100_60, s_100_61, s_100_62, s_100_63, s_100_65, s_100_67, s_100_69, s_100_70, s_100_73, s_100_76, s_100_78, s_100_80, s_100_83, s_100_86, s_100_88, true_and, and_true, sc0, sc1, sc2, sc3, sc4, Option.toList, List.cons_append, List.nil_append, clr, ne_eq, not_false_eq_true, not_true_eq_false, false_and, and_false, true_or, or_true, or_false, false_or, forall_const, Nat.reduceEqDiff, List.length_nil, List.length_cons, Nat.zero_le, Nat.reduceAdd, Nat.reduceLeDiff, false_implies, true_implies, Int.reduceEq, Int.reduceNe, Int.reduceLT, Int.reduceLE, Int.reduceNeg, Int.reduceToNat, Int.toNat_natCast, Nat.reduceLT, and_self, Decidable.not_not, kC_0, kC_1, kC_2, kC_3, kC_4, kC_5, kC_6, kC_7, kC_8, kC_9, kC_10, kC_11, kC_12, kC_13, kC_14, kC_15, kC_16, kC_17, kC_18, kC_19, kC_20, kC_21, kC_22, kC_23, kC_24, kC_25, kC_26, kC_27, kC_28, kC_29, kC_30, kC_31, kC_32, kC_145, kC_146, kC_147, kC_148, kC_149, kC_150, kC_151, kC_164, kC_165, kC_166, kC_167, kC_168, kC_169, kC_170, kC_171, kC_172, kC_173, kC_174, kC_175, kC_176, kC_177, kC_178, kC_179, kC_180, kC_181, kC_182, kC_183, kC_184, pC_1_0, pC_1_2, pC_1_3, pC_1_4, pC_1_5, pC_1_6, pC_1_7, pC_1_8, pC_1_9, pC_1_10, pC_1_11, pC_3_5, pC_5_0, pC_5_1, pC_5_2, pC_5_6, pC_5_7, pC_5_8, pC_5_9, pC_5_10, pC_13_0, pC_13_1, pC_13_2, pC_13_6, pC_13_7, pC_13_8, pC_13_9, pC_13_10, pC_21_0, pC_21_1, pC_21_2, pC_21_6, pC_21_7, pC_21_8, pC_21_9, pC_21_10, pC_29_0, pC_29_1, pC_29_2, pC_145_0, pC_145_1, pC_145_2, pC_145_3, pC_145_4, pC_149_0, pC_149_1, pC_149_2, pC_164_1, pC_164_2, pC_164_3, pC_168_0, pC_168_3, pC_168_4, pC_168_5, pC_172_0, pC_175_0, pC_175_2, pC_175_3, pC_175_5, pC_180_0, pC_180_2, pC_180_3, pC_180_5, hsz, ez, (EqW_o t1), (EqW_o t2), (EqW_o t3), (EqW_o t4), (EqW_o t5), (EqW_o t6), (EqW_o t7), (EqW_o t8), (EqW_o t9), (EqW_o t10), (EqW_o t11), (EqW_o ec2)]
      have := hend y a1 a2 (fun f hf => hf.2 (fun f => y.testBit f = true) (a3 hf.1) (fun f n q hfz hN hp => (hw n).mpr ⟨⟨Nbr_lt hL hfz hN, hp⟩, Or.inr ⟨f, q, hN⟩⟩))
      rw [this]
      exact hq
    · have ec : ¬ lCmp (y : Int) (x : Int) = 0 := by
        have : ¬ (y : Int) = (x : Int) := by omega
        unfold lCmp
        split
        · omega
        · simp [this]
      simp only [s_100_0, s_100_1, s_100_2, s_100_3, s_100_4, s_100_5, s_100_7, s_100_8, s_100_12, s_100_13, s_100_16, s_100_19, s_100_21, s_100_22, s_100_25, s_100_26, s_100_27, s_100_28, s_100_30, s_100_31, s_100_34, s_100_35, s_100_36, s_100_37, s_100_38, s_100_40, s_100_42, s_100_44, s_100_45, s_100_47, s_100_48, s_100_51, s_100_52, s_100_53, s_100_55, s_100_56, s_100_59, s_100_60, s_100_61, s_100_62, s_100_63, s_100_65, s_100_67, s_100_69, s_100_70, s_100_73, s_100_76, s_100_78, s_100_80, s_100_83, s_100_86, s_100_88, true_and, and_true, sc0, sc1, sc2, sc3, sc4, Option.toList, List.cons_append, List.nil_append, clr, ne_eq, not_false_eq_true, not_true_eq_false, false_and, and_false, true_or, or_true, or_false, false_or, forall_const, Nat.reduceEqDiff, List.length_nil, List.length_cons, Nat.zero_le, Nat.reduceAdd, Nat.reduceLeDiff, false_implies, true_implies, Int.reduceEq, Int.reduceNe, Int.reduceLT, Int.reduceLE, Int.reduceNeg, Int.reduceToNat, Int.toNat_natCast, Nat.reduceLT, and_self, Decidable.not_not, kC_0, kC_1, kC_2, kC_3, kC_4, kC_5, kC_6, kC_7, kC_8, kC_9, kC_10, kC_11, kC_12, kC_13, kC_14, kC_15, kC_16, kC_17, kC_18, kC_19, kC_20, kC_21, kC_22, kC_23, kC_24, kC_25, kC_26, kC_27, kC_28, kC_29, kC_30, kC_31, kC_32, kC_145, kC_146, kC_147, kC_148, kC_149, kC_150, kC_151, kC_164, kC_165, kC_166, kC_167, kC_168, kC_169, kC_170, kC_171, kC_172, kC_173, kC_174, kC_175, kC_176, kC_177, kC_178, kC_179, kC_180, kC_181, kC_182, kC_183, kC_184, pC_1_0, pC_1_2, pC_1_3, pC_1_4, pC_1_5, pC_1_6, pC_1_7, pC_1_8, pC_1_9, pC_1_10, pC_1_11, pC_3_5, pC_5_0, pC_5_1, pC_5_2, pC_5_6, pC_5_7, pC_5_8, pC_5_9, pC_5_10, pC_13_0, pC_13_1, pC_13_2, pC_13_6, pC_13_7, pC_13_8, pC_13_9, pC_13_10, pC_21_0, pC_21_1, pC_21_2, pC_21_6, pC_21_7, pC_21_8, pC_21_9, pC_21_10, pC_29_0, pC_29_1, pC_29_2, pC_145_0, pC_145_1, pC_145_2, pC_145_3, pC_145_4, pC_149_0, pC_149_1, pC_149_2, pC_164_1, pC_164_2, pC_164_3, pC_168_0, pC_168_3, pC_168_4, pC_168_5, pC_172_0, pC_175_0, pC_175_2, pC_175_3, pC_175_5, pC_180_0, pC_180_2, pC_180_3, pC_180_5, hsz, ez, (EqW_o t1), (EqW_o t2), (EqW_o t3), (EqW_o t4), (EqW_o t5), (EqW_o t6), (EqW_o t7), (EqW_o t8), (EqW_o t9), (EqW_o t10), (EqW_o t11), ec, (EqW_o en)]
      refine ih (y, _, _, _, _) ⟨hwlt, fun f hf => ?_, fun hp => hsub s (a3 hp), ?_⟩
      · obtain ⟨⟨h1, h2⟩, h3⟩ := (hw f).mp hf
        rcases h3 with h3 | ⟨g, hg, hN⟩
        · exact a2 f h3
        · exact Rch_s (a2 g hg) (hxz g hg) hN h2
      · have : ∃ k, x.testBit k = false ∧ y.testBit k = true := by
          apply Classical.byContradiction
          intro hno
          apply e
          apply Nat.eq_of_testBit_eq
          intro k
          cases hy : y.testBit k
          · cases hx : x.testBit k
            · rfl
            · exact absurd (hsub k hx) (by rw [hy]; decide)
          · cases hx : x.testBit k
            · exact absurd ⟨k, hx, hy⟩ hno
            · rfl
        obtain ⟨k, h1, h2⟩ := this
        have := cnt_lt z (fun f _ => hsub f) k ((hw k).mp h2).1.1 h1 h2
        show i + 1 ≤ cnt y.testBit z
        exact Nat.lt_of_le_of_lt a4 this
  · refine ⟨Nat.lt_of_le_of_lt Nat.and_le_left hbp, fun f hf => ?_, fun hp => ?_, Nat.zero_le _⟩
    · rw [Nat.testBit_and, bs_bit, Nat.testBit_two_pow] at hf
      simp only [Bool.and_eq_true, decide_eq_true_eq] at hf
      obtain ⟨⟨h1, h2⟩, h3⟩ := hf
      subst h3
      exact Rch_0 h2
    · rw [Nat.testBit_and, bs_bit, Nat.testBit_two_pow]
      simp [hs, hp]
end
