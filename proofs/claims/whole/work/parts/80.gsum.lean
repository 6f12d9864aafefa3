/-! goes: the sum -/
def gsT (m cc k : Nat) : Nat := chs m k * cc ^ k * (10 - cc) ^ (m - k)
def gsS (m t cc : Nat) : Nat → Nat
  | 0 => 0
  | k + 1 => gsS m t cc k + (if t ≤ k then gsT m cc k else 0)
theorem chs_20 : ∀ n, n < 7 → ∀ i, i < 8 → chs n i ≤ 20 := by decide +kernel
theorem gsT_le {m cc k : Nat} (hm : m ≤ 6) (hc : cc ≤ 10) (hk : k ≤ m) : chs m k * cc ^ k ≤ 20000000 ∧ gsT m cc k ≤ 20000000 := by
  have h1 := chs_20 m (by omega) k (by omega)
  have h2 := pow_b (a := cc) (k := k) hc (by omega)
  refine ⟨Nat.le_trans (Nat.mul_le_mul h1 h2) (by decide), ?_⟩
  unfold gsT
  rw [Nat.mul_assoc]
  have h3 : cc ^ k * (10 - cc) ^ (m - k) ≤ 10 ^ k * 10 ^ (m - k) := Nat.mul_le_mul (Nat.pow_le_pow_left hc k) (Nat.pow_le_pow_left (by omega) _)
  rw [← Nat.pow_add, show k + (m - k) = m by omega] at h3
  have h4 := pow_b (a := 10) (k := m) (by decide) hm
  exact Nat.le_trans (Nat.mul_le_mul h1 (Nat.le_trans h3 h4)) (by decide)
theorem gsS_le {m t cc : Nat} (hm : m ≤ 6) (hc : cc ≤ 10) : ∀ k, k ≤ m + 1 → gsS m t cc k ≤ 20000000 * k
  | 0, _ => Nat.zero_le _
  | k + 1, h => by
    have ih := gsS_le (t := t) hm hc k (by omega)
    have := (gsT_le (k := k) hm hc (by omega)).2
    unfold gsS
    split <;> omega
theorem gsS_0 {m t cc : Nat} : ∀ k, k ≤ t → gsS m t cc k = 0
  | 0, _ => rfl
  | k + 1, h => by
    unfold gsS
    rw [gsS_0 k (by omega), if_neg (by omega)]
