/-! prints, kept states, undo, count, sheet: alike -/
theorem iAndNot {a l : Nat} (ha : a < 2 ^ 31) : bAnd (a : Int) (bXor (l : Int) (-1)) = ((a ^^^ (a &&& l) : Nat) : Int) := by
  unfold bAnd bXor
  rw [Int32.ofInt_toInt, oIn, oIn]
  have e : nI a &&& (nI l ^^^ Int32.ofInt (-1)) = nI (a ^^^ (a &&& l)) := by
    apply Int32.toBitVec_inj.1
    show BitVec.ofNat 32 a &&& (BitVec.ofNat 32 l ^^^ BitVec.ofInt 32 (-1)) = BitVec.ofNat 32 (a ^^^ (a &&& l))
    have e1 : BitVec.ofInt 32 (-1) = BitVec.allOnes 32 := by decide
    rw [e1]
    apply BitVec.eq_of_getLsbD_eq
    intro i hi
    simp only [BitVec.getLsbD_and, BitVec.getLsbD_xor, BitVec.getLsbD_ofNat, BitVec.getLsbD_allOnes, Nat.testBit_xor, Nat.testBit_and, hi, decide_true, Bool.true_and]
    cases a.testBit i <;> cases l.testBit i <;> rfl
  rw [e, nI_toInt (Nat.xor_lt_two_pow ha (Nat.lt_of_le_of_lt Nat.and_le_left ha))]
def upN {α : Type} (g : Nat → α) (m : Nat) (v : α) : Nat → α := fun k => if k = m then v else g k
theorem pn_up {F : Nat → Nat} {I : Nat → Bool} {m f : Nat} {i t : Bool} {g : Nat} : pnB (upN F m f) (upN I m i) (m + 1) t g = (pnB F I m t g || (decide (g = f) && decide (i = t))) := by
  unfold pnB upN
  rw [Bool.eq_iff_iff, Bool.or_eq_true, Bool.and_eq_true, decide_eq_true_iff, decide_eq_true_iff, decide_eq_true_iff, decide_eq_true_iff]
  constructor
  · rintro ⟨k, h1, h2, h3⟩
    by_cases e : k = m
    · rw [if_pos e] at h2 h3
      exact Or.inr ⟨h2.symm, h3⟩
    · rw [if_neg e] at h2 h3
      exact Or.inl ⟨k, by omega, h2, h3⟩
  · rintro (⟨k, h1, h2, h3⟩ | ⟨h1, h2⟩)
    · have e : ¬ k = m := by omega
      exact ⟨k, by omega, by rw [if_neg e]; exact h2, by rw [if_neg e]; exact h3⟩
    · exact ⟨m, by omega, by rw [if_pos rfl]; exact h1.symm, by rw [if_pos rfl]; exact h2⟩
theorem pb_up {I : Nat → Bool} {m : Nat} {i : Bool} (hm : m < 12) : bOr (bAnd ((bs I 12 : Nat) : Int) (bXor (bShl 1 (m : Int)) (-1))) (bShl (if i = true then 1 else 0) (m : Int)) = ((bs (upN I m i) 12 : Nat) : Int) := by
  have hx : bs I 12 < 2 ^ 12 := bs_lt I 12
  have h2m : 2 ^ m < 2 ^ 12 := Nat.pow_lt_pow_right (by decide) hm
  rw [ione_shl (by omega), iAndNot (by omega)]
  have hl : bs I 12 ^^^ (bs I 12 &&& 2 ^ m) < 2 ^ 12 := Nat.xor_lt_two_pow hx (Nat.lt_of_le_of_lt Nat.and_le_left hx)
  have hr : EqW (bShl (if i = true then 1 else 0) (m : Int)) (((if i = true then 2 ^ m else 0 : Nat) : Int)) := EqW_i <| by
    cases i
    · rw [if_neg (by decide), if_neg (by decide)]
      rw [show (0 : Int) = ((0 : Nat) : Int) from rfl, bShl_n (by omega) (by omega), Nat.zero_mul]
    · rw [if_pos rfl, if_pos rfl]; exact ione_shl (by omega)
  have hr2 : (if i = true then 2 ^ m else 0) < 2 ^ 12 := by split <;> omega
  rw [(EqW_o hr), bOr_n (by omega) (by omega)]
  congr 1
  apply Nat.eq_of_testBit_eq
  intro j
  rw [Nat.testBit_or, Nat.testBit_xor, Nat.testBit_and, bs_bit, bs_bit]
  unfold upN
  by_cases e : j = m
  · subst e
    rw [if_pos rfl, decide_eq_true (show j < 12 by omega)]
    cases i <;> simp [Nat.testBit_two_pow_self]
  · rw [if_neg e]
    have e2 : ¬ m = j := fun w => e w.symm
    have : (2 ^ m).testBit j = false := by simp [Nat.testBit_two_pow, e2]
    rw [this]
    cases i <;> simp [this]
section
variable {M M' N N' : MM} {b : Bool} {t r c z n : Nat} {A B : Nat → Int} {V : GV} {u : Int} {U : List (Nat → Int)} {K : Nat → Option (Nat → Int)} {m : Nat} {F : Nat → Nat} {I : Nat → Bool} {T : Nat → Int} {ln : Nat} {R : List Int}
theorem RelC_pr {m' : Nat} {F' : Nat → Nat} {I' : Nat → Bool} (h : RelC M b r c z n A B V u U K m F I T ln R) (hP : PrC M' z m' F' I') (h1 : ∀ j, j ≠ 15 → j ≠ 16 → j ≠ 17 → M' 1 j = M 1 j) (hs : ∀ p, p ≠ 1 → M' p = M p) : RelC M' b r c z n A B V u U K m' F' I' T ln R := by
  obtain ⟨a1, a2, a3, a4, a5, a6, a7, a8⟩ := h
  have hqn := qr_n (b := b)
  exact ⟨WdC_id a1 (fun p q1 q2 => hs p (by omega)) (hs _ (by omega)) (hs _ (by omega)) (h1 14 (by decide) (by decide) (by decide)), UnC_sm a2 (fun p q1 q2 => hs p (by omega)), KpC_sm a3 (fun p q1 q2 => hs p (by omega)), hP, TxC_sm a5 (h1 1 (by decide) (by decide) (by decide)) (hs 2 (by decide)), ToC_id a6 (hs _ (by decide)) (hs _ (by decide)), by rw [hs 0 (by decide)]; exact a7, by rw [hs 174 (by decide)]; exact a8⟩
theorem RelR_pr {m' : Nat} {F' : Nat → Nat} {I' : Nat → Bool} (h : RelR N t r c z n A B V u U K m F I T ln R) (hP : PrR N' z m' F' I') (hf : Fr [10, 36, 37] [19] N N') : RelR N' (t + 1) r c z n A B V u U K m' F' I' T ln R := by
  obtain ⟨h1, h2, h3, h4, h5, h6⟩ := h
  refine ⟨WdR_frg h1 hf (by decide) (by decide), UnR_fr h2 hf (by decide) (by decide), KpR_t (KpR_fr h3 hf (by decide) (by decide)), hP, TxR_fr h5 hf (by decide) (by decide), ?_⟩
  unfold ToR at h6 ⊢
  rw [hf.1 9 (by decide), hf.2 5 (by decide) (by decide)]; exact h6
end
theorem pn_0 {F : Nat → Nat} {I : Nat → Bool} {t : Bool} {z : Nat} : bs (pnB F I 0 t) z = 0 := bs_z.mpr (fun f _ => by
  unfold pnB
  rw [decide_eq_false]
  rintro ⟨k, h, _⟩
  exact Nat.not_lt_zero _ h)
theorem j_forget {t : Nat} : Jn t 129 245 [] := by
  intro P Q M N hR d hd
  obtain ⟨b, rd, r, c, z, n, A, B, V, u, U, K, m, F, I, T, ln, R, rfl, rfl, hC, hD, hU, hK⟩ := hR
  have e1 := c_forget (b := b) (M := M) d (by omega)
  have e2 := r_forget (rd := rd) (ru := 7) (M := N) d (by omega)
  obtain ⟨x1, x2, x3, x4, x5⟩ := hC.2.2.2.1
  obtain ⟨y1, y2, y3, y4, y5⟩ := hD.2.2.2.1
  rw [x1] at e1
  rw [y1] at e2
  refine ⟨_, _, _, _, _, e1, e2, b, rd, r, c, z, n, A, B, V, u, U, K, 0, F, I, T, ln, R, rfl, rfl, RelC_pr hC ⟨by simp [uM_at], by decide, ?_, ?_, fun k hk => absurd hk (Nat.not_lt_zero _)⟩ (fun j h1 h2 h3 => by simp [uM_at, h1, h2, h3]) (fun p hp => by rw [uM_ne hp, uM_ne hp, uM_ne hp]), RelR_pr hD ⟨by simp [uM_at], by decide, fun k hk => absurd hk (Nat.not_lt_zero _), by simp [uM_at]; exact y4, fun k hk => absurd hk (Nat.not_lt_zero _)⟩ (Fr_1 (Fr_1 Fr_refl (by decide)) (by decide)), hU, hK⟩
  · rw [pn_0]; simp [uM_at]
  · rw [pn_0]; simp [uM_at]
theorem j_print {t : Nat} {f i : Int} : Jn t 128 244 [pI f, pI i] := by
  intro P Q M N hR d hd
  obtain ⟨b, rd, r, c, z, n, A, B, V, u, U, K, m, F, I, T, ln, R, rfl, rfl, hC, hD, hU, hK⟩ := hR
  obtain ⟨x1, x2, x3, x4, x5⟩ := hC.2.2.2.1
  obtain ⟨y1, y2, y3, y4, y5⟩ := hD.2.2.2.1
  have hz := GrC_z hC.1.1
  have hs3 := GrC_s hC.1.1
  have hzr : r * c = z := hD.1.1.2.1.symm
  have e2 := r_print (rd := rd) (ru := 7) (f := f) (i := i) hD.1.1.1 y1 y2 d (by omega)
  rw [hzr] at e2
  by_cases h : (0 ≤ f ∧ f < (z : Int)) ∧ (0 ≤ i ∧ i ≤ 1) ∧ m < 12
  · have ho : printOk M f i := ⟨by rw [hs3]; exact h.1, by omega, by rw [x1]; omega⟩
    have e1 := c_print (b := b) ho d (by omega)
    rw [x1, x3, x4, w32n (show m < 1000000 by omega)] at e1
    rw [if_pos h, if_pos h] at e2
    obtain ⟨g, rfl⟩ : ∃ g : Nat, f = (g : Int) := ⟨f.toNat, by omega⟩
    have hg : g < z := by omega
    obtain ⟨j, rfl⟩ : ∃ j : Bool, i = if j = true then 1 else 0 := by
      have : i = 0 ∨ i = 1 := by omega
      rcases this with rfl | rfl
      · exact ⟨false, rfl⟩
      · exact ⟨true, rfl⟩
    have hsh : ∀ s : Bool, lOr ((bs (pnB F I m s) z : Nat) : Int) (lShl 1 (g : Int)) = ((bs (fun k => pnB F I m s k || decide (k = g)) z : Nat) : Int) := fun s => by
      have h1 : bs (pnB F I m s) z < 2 ^ 62 := bs_le (by omega)
      have h2 : 2 ^ g < 2 ^ 62 := Nat.pow_lt_pow_right (by decide) (by omega)
      rw [one_shl (by omega), lOr_n (by omega) (by omega), bs_or1 hz.2 hg]
    rw [hsh true, hsh false] at e1
    refine ⟨_, _, _, _, _, e1, e2, b, rd, r, c, z, n, A, B, V, u, U, K, m + 1, upN F m g, upN I m j, T, ln, R, rfl, rfl, RelC_pr hC ⟨by simp [uM_at], by omega, ?_, ?_, ?_⟩ (fun k h1 h2 h3 => ?_) (fun p hp => ?_), RelR_pr hD ⟨by simp [uM_at], by omega, ?_, ?_, ?_⟩ (Fr_1 (Fr_1 (Fr_o (Fr_1 Fr_refl (by decide)) (by decide) (by decide)) (by decide)) (by decide)), hU, hK⟩
    · cases j
      · simp [uM_at]
        rw [x3, bs_cg (p := pnB (upN F m g) (upN I m false) (m + 1) true) (q := pnB F I m true) (fun k _ => by rw [pn_up]; simp)]
      · simp [uM_at]
        rw [bs_cg (p := pnB (upN F m g) (upN I m true) (m + 1) true) (fun k _ => pn_up)]
        simp
    · cases j
      · simp [uM_at]
        rw [bs_cg (p := pnB (upN F m g) (upN I m false) (m + 1) false) (fun k _ => pn_up)]
        simp
      · simp [uM_at]
        rw [x4, bs_cg (p := pnB (upN F m g) (upN I m true) (m + 1) false) (q := pnB F I m false) (fun k _ => by rw [pn_up]; simp)]
    · intro k hk
      unfold upN
      by_cases e : k = m
      · rw [if_pos e]; exact hg
      · rw [if_neg e]; exact x5 k (by omega)
    · cases j <;> simp [uM_at, h1, h2, h3]
    · cases j <;> simp only [Bool.false_eq_true, if_false, if_true, Int.reduceEq] <;> rw [uM_ne hp, uM_ne hp]
    · intro k hk
      unfold upN
      simp only [uM_at, Int.toNat_natCast]
      by_cases e : k = m
      · simp [e]
      · simp [e]; exact y3 k (by omega)
    · have := pb_up (I := I) (i := j) h.2.2
      simp only [uM_at]
      simp
      rw [y4]
      exact this
    · intro k hk
      unfold upN
      by_cases e : k = m
      · rw [if_pos e]; exact hg
      · rw [if_neg e]; exact x5 k (by omega)
  · have ho : ¬ printOk M f i := fun w => h ⟨by have := w.1; rw [hs3] at this; exact this, by have := w.2.1; omega, by have := w.2.2; rw [x1] at this; omega⟩
    have e1 := c_print_no (b := b) ho d (by omega)
    rw [if_neg h, if_neg h] at e2
    exact ⟨_, _, _, _, _, e1, e2, b, rd, r, c, z, n, A, B, V, u, U, K, m, F, I, T, ln, R, rfl, rfl, hC, RelR_10 hD, hU, hK⟩
