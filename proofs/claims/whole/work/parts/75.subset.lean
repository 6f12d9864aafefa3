/-! the subsets of a set of bits, in their order -/
def mkL : (Nat → Bool) → Nat → Nat
  | _, 0 => 0
  | p, z + 1 => (p 0).toNat + 2 * mkL (fun k => p (k + 1)) z
def spr : (Nat → Bool) → Nat → Nat → Nat
  | _, 0, _ => 0
  | p, z + 1, i => if p 0 = true then i % 2 + 2 * spr (fun k => p (k + 1)) z (i / 2) else 2 * spr (fun k => p (k + 1)) z i
theorem and2 {a b u v : Nat} (ha : a ≤ 1) (hb : b ≤ 1) : (a + 2 * u) &&& (b + 2 * v) = a * b + 2 * (u &&& v) := by
  have ha' : a = 0 ∨ a = 1 := by omega
  have hb' : b = 0 ∨ b = 1 := by omega
  apply Nat.eq_of_testBit_eq
  intro i
  rw [Nat.testBit_and]
  cases i with
  | zero =>
    rw [Nat.testBit_zero, Nat.testBit_zero, Nat.testBit_zero]
    rcases ha' with rfl | rfl <;> rcases hb' with rfl | rfl <;> simp <;> omega
  | succ i =>
    rw [Nat.testBit_succ, Nat.testBit_succ, Nat.testBit_succ]
    have e1 : (a + 2 * u) / 2 = u := by omega
    have e2 : (b + 2 * v) / 2 = v := by omega
    have e3 : (a * b + 2 * (u &&& v)) / 2 = (u &&& v) := by
      have : a * b ≤ 1 := by rcases ha' with rfl | rfl <;> rcases hb' with rfl | rfl <;> decide
      omega
    rw [e1, e2, e3, Nat.testBit_and]
theorem mkL_lt : ∀ {p : Nat → Bool} {z : Nat}, mkL p z < 2 ^ z
  | _, 0 => Nat.zero_lt_one
  | p, z + 1 => by
    have := mkL_lt (p := fun k => p (k + 1)) (z := z)
    unfold mkL
    have h : (p 0).toNat ≤ 1 := by cases p 0 <;> decide
    rw [Nat.pow_succ]; omega
theorem spr_le : ∀ {p : Nat → Bool} {z i : Nat}, spr p z i ≤ mkL p z
  | _, 0, _ => Nat.le_refl _
  | p, z + 1, i => by
    have h1 := spr_le (p := fun k => p (k + 1)) (z := z) (i := i)
    have h2 := spr_le (p := fun k => p (k + 1)) (z := z) (i := i / 2)
    unfold spr mkL
    cases p 0
    · simp; omega
    · simp only [if_true, Bool.toNat_true]; omega
theorem spr_B : ∀ {p : Nat → Bool} {z i : Nat}, (spr p z i + (2 ^ z - 1 - mkL p z)) &&& mkL p z = spr p z i
  | _, 0, _ => by simp [spr, mkL]
  | p, z + 1, i => by
    have hl := mkL_lt (p := fun k => p (k + 1)) (z := z)
    have h1 := spr_B (p := fun k => p (k + 1)) (z := z) (i := i)
    have h2 := spr_B (p := fun k => p (k + 1)) (z := z) (i := i / 2)
    unfold spr mkL
    generalize mkL (fun k => p (k + 1)) z = L at hl h1 h2 ⊢
    generalize spr (fun k => p (k + 1)) z i = x at h1 ⊢
    generalize spr (fun k => p (k + 1)) z (i / 2) = y at h2 ⊢
    rw [Nat.pow_succ]
    generalize 2 ^ z = K at hl h1 h2 ⊢
    cases p 0
    · simp only [Bool.false_eq_true, if_false, Bool.toNat_false]
      have e : 2 * x + (K * 2 - 1 - (0 + 2 * L)) = 1 + 2 * (x + (K - 1 - L)) := by omega
      rw [e, and2 (by decide) (by decide), h1]; omega
    · simp only [if_true, Bool.toNat_true]
      have e : i % 2 + 2 * y + (K * 2 - 1 - (1 + 2 * L)) = i % 2 + 2 * (y + (K - 1 - L)) := by omega
      rw [e, and2 (by omega) (by decide), h2]; omega
theorem spr_A : ∀ {p : Nat → Bool} {z i : Nat}, (spr p z i + 2 ^ z - mkL p z) &&& mkL p z = spr p z (i + 1)
  | _, 0, _ => by simp [spr, mkL]
  | p, z + 1, i => by
    have hl := mkL_lt (p := fun k => p (k + 1)) (z := z)
    have h1 := spr_A (p := fun k => p (k + 1)) (z := z) (i := i)
    have h2 := spr_A (p := fun k => p (k + 1)) (z := z) (i := i / 2)
    have h3 := spr_B (p := fun k => p (k + 1)) (z := z) (i := i / 2)
    unfold spr mkL
    have hi : i % 2 = 0 ∨ i % 2 = 1 := by omega
    cases p 0
    · simp only [Bool.false_eq_true, if_false, Bool.toNat_false]
      have e : 2 * spr (fun k => p (k + 1)) z i + 2 ^ (z + 1) - (0 + 2 * mkL (fun k => p (k + 1)) z) = 0 + 2 * (spr (fun k => p (k + 1)) z i + 2 ^ z - mkL (fun k => p (k + 1)) z) := by
        rw [Nat.pow_succ]; omega
      rw [e, and2 (by decide) (by decide), h1]; omega
    · simp only [if_true, Bool.toNat_true]
      rcases hi with hi | hi
      · have e1 : (i + 1) % 2 = 1 := by omega
        have e2 : (i + 1) / 2 = i / 2 := by omega
        have e : i % 2 + 2 * spr (fun k => p (k + 1)) z (i / 2) + 2 ^ (z + 1) - (1 + 2 * mkL (fun k => p (k + 1)) z) = 1 + 2 * (spr (fun k => p (k + 1)) z (i / 2) + (2 ^ z - 1 - mkL (fun k => p (k + 1)) z)) := by
          rw [Nat.pow_succ]; omega
        rw [e, e1, e2, and2 (by decide) (by decide), h3]
      · have e1 : (i + 1) % 2 = 0 := by omega
        have e2 : (i + 1) / 2 = i / 2 + 1 := by omega
        have e : i % 2 + 2 * spr (fun k => p (k + 1)) z (i / 2) + 2 ^ (z + 1) - (1 + 2 * mkL (fun k => p (k + 1)) z) = 0 + 2 * (spr (fun k => p (k + 1)) z (i / 2) + 2 ^ z - mkL (fun k => p (k + 1)) z) := by
          rw [Nat.pow_succ]; omega
        rw [e, e1, e2, and2 (by decide) (by decide), h2]
theorem cnt_low (p : Nat → Bool) (f : Nat) : cnt p (f + 1) = (p 0).toNat + cnt (fun k => p (k + 1)) f := by
  have := cnt_split p 1 f
  rw [Nat.add_comm 1 f] at this
  rw [this]
  have e : cnt p 1 = (p 0).toNat := by show 0 + (p 0).toNat = _; omega
  rw [e]
  congr 1
  exact cnt_cg (fun k _ => by rw [Nat.add_comm])
theorem spr_bit : ∀ {p : Nat → Bool} {z i f : Nat}, (spr p z i).testBit f = (decide (f < z) && (p f && i.testBit (cnt p f)))
  | _, 0, _, f => by simp [spr]
  | p, z + 1, i, 0 => by
    unfold spr
    rw [Nat.testBit_zero]
    have e : cnt p 0 = 0 := rfl
    rw [e, Nat.testBit_zero]
    cases hp : p 0
    · simp
    · simp
  | p, z + 1, i, f + 1 => by
    unfold spr
    rw [Nat.testBit_succ, cnt_low]
    cases hp : p 0
    · simp only [Bool.false_eq_true, if_false, Bool.toNat_false, Nat.zero_add]
      rw [show 2 * spr (fun k => p (k + 1)) z i / 2 = spr (fun k => p (k + 1)) z i by omega, spr_bit]
      simp
    · simp only [if_true, Bool.toNat_true]
      rw [show (i % 2 + 2 * spr (fun k => p (k + 1)) z (i / 2)) / 2 = spr (fun k => p (k + 1)) z (i / 2) by omega, spr_bit, Nat.add_comm 1, Nat.testBit_succ]
      simp
theorem mkL_bit : ∀ {p : Nat → Bool} {z f : Nat}, (mkL p z).testBit f = (decide (f < z) && p f)
  | _, 0, f => by simp [mkL]
  | p, z + 1, 0 => by
    unfold mkL
    rw [Nat.testBit_zero]
    cases hp : p 0 <;> simp <;> omega
  | p, z + 1, f + 1 => by
    unfold mkL
    rw [Nat.testBit_succ]
    have h : (p 0).toNat ≤ 1 := by cases p 0 <;> decide
    rw [show ((p 0).toNat + 2 * mkL (fun k => p (k + 1)) z) / 2 = mkL (fun k => p (k + 1)) z by omega, mkL_bit]
    simp
/-- the i-th subset of the bits p below z -/
def sbS (p : Nat → Bool) (z i : Nat) : Nat := bs (fun f => p f && i.testBit (cnt p f)) z
theorem sb_spr {p : Nat → Bool} {z i Z : Nat} (h : z ≤ Z) : spr (fun f => decide (f < z) && p f) Z i = sbS p z i := by
  apply Nat.eq_of_testBit_eq
  intro f
  unfold sbS
  rw [spr_bit, bs_bit]
  by_cases hf : f < z
  · have hF : f < Z := by omega
    have : cnt (fun f => decide (f < z) && p f) f = cnt p f := cnt_cg (fun k hk => by simp [show k < z by omega])
    rw [this]; simp [hf, hF]
  · simp [hf]
theorem mk_bs {p : Nat → Bool} {z Z : Nat} (h : z ≤ Z) : mkL (fun f => decide (f < z) && p f) Z = bs p z := by
  apply Nat.eq_of_testBit_eq
  intro f
  rw [mkL_bit, bs_bit]
  by_cases hf : f < z
  · simp [hf, show f < Z by omega]
  · simp [hf]
theorem sb_le {p : Nat → Bool} {z i : Nat} : sbS p z i ≤ bs p z := by
  have := spr_le (p := fun f => decide (f < z) && p f) (z := z) (i := i)
  rw [sb_spr (Nat.le_refl _), mk_bs (Nat.le_refl _)] at this
  exact this
theorem sb_next {p : Nat → Bool} {z i : Nat} (hz : z ≤ 64) : (sbS p z i + 2 ^ 64 - bs p z) &&& bs p z = sbS p z (i + 1) := by
  have := spr_A (p := fun f => decide (f < z) && p f) (z := 64) (i := i)
  rw [sb_spr hz, mk_bs hz, sb_spr hz] at this
  exact this
theorem sb_cnt {p : Nat → Bool} {i : Nat} : ∀ z, cnt (fun f => p f && i.testBit (cnt p f)) z = cnt i.testBit (cnt p z)
  | 0 => rfl
  | z + 1 => by
    have ih := sb_cnt (p := p) (i := i) z
    cases hp : p z
    · rw [cnt_f (p := p) hp, cnt_f (p := fun f => p f && i.testBit (cnt p f)) (by rw [hp]; rfl)]; exact ih
    · rw [cnt_t (p := p) hp]
      show cnt _ z + (p z && i.testBit (cnt p z)).toNat = cnt i.testBit (cnt p z) + (i.testBit (cnt p z)).toNat
      rw [ih, hp, Bool.true_and]
theorem sb_0 {p : Nat → Bool} {z : Nat} : sbS p z 0 = 0 := by
  apply Nat.eq_of_testBit_eq
  intro f
  unfold sbS
  rw [bs_bit]; simp
/-- the last is followed by none -/
theorem sb_end {p : Nat → Bool} {z i : Nat} (h : i = 2 ^ cnt p z) : sbS p z i = 0 := by
  apply Nat.eq_of_testBit_eq
  intro f
  unfold sbS
  rw [bs_bit, h, Nat.testBit_two_pow, Nat.zero_testBit]
  by_cases hf : f < z
  · by_cases hp : p f = true
    · have h1 : cnt p f < cnt p z := by
        have h2 := cnt_t (p := p) hp
        have h3 : cnt p (f + 1) ≤ cnt p z := by
          obtain ⟨k, rfl⟩ : ∃ k, z = (f + 1) + k := ⟨z - (f + 1), by omega⟩
          have h5 := cnt_split p (f + 1) k
          omega
        omega
      have h4 : ¬ cnt p z = cnt p f := by omega
      simp [h4]
    · simp [hp]
  · simp [hf]
theorem sb_lt {p : Nat → Bool} {z i : Nat} (hi : 0 < i) (h : i < 2 ^ cnt p z) : sbS p z i ≠ 0 := by
  intro e
  have hc := sb_cnt (p := p) (i := i) z
  have h0 : cnt (fun f => p f && i.testBit (cnt p f)) z = 0 := cnt_no (fun k hk => by
    have : (sbS p z i).testBit k = false := by rw [e, Nat.zero_testBit]
    unfold sbS at this
    rw [bs_bit] at this
    simpa [hk] using this)
  rw [h0] at hc
  have : i = 0 := by
    rw [← bs_tb h]
    apply Nat.eq_of_testBit_eq
    intro f
    rw [bs_bit, Nat.zero_testBit]
    by_cases hf : f < cnt p z
    · have : ¬ i.testBit f = true := fun q => by
        have h2 := cnt_lt (p := fun _ => false) (q := i.testBit) (cnt p z) (fun k _ w => by cases w) f hf rfl q
        omega
      simp [this]
    · simp [hf]
  omega
