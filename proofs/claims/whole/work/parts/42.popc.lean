/-! Long.bitCount and Integer.bitCount count the bits -/
theorem cnt_cg {p q : Nat → Bool} : ∀ {n : Nat}, (∀ k, k < n → p k = q k) → cnt p n = cnt q n
  | 0, _ => rfl
  | n + 1, h => by
    show cnt p n + (p n).toNat = cnt q n + (q n).toNat
    rw [cnt_cg (fun k hk => h k (by omega)), h n (by omega)]
theorem cnt_split (p : Nat → Bool) (m : Nat) : ∀ n, cnt p (m + n) = cnt p m + cnt (fun k => p (m + k)) n
  | 0 => rfl
  | n + 1 => by
    show cnt p (m + n) + (p (m + n)).toNat = cnt p m + (cnt (fun k => p (m + k)) n + (p (m + n)).toNat)
    rw [cnt_split p m n, Nat.add_assoc]
theorem cnt_no {p : Nat → Bool} : ∀ {n : Nat}, (∀ k, k < n → p k = false) → cnt p n = 0
  | 0, _ => rfl
  | n + 1, h => by
    show cnt p n + (p n).toNat = 0
    rw [cnt_no (fun k hk => h k (by omega)), h n (by omega)]; rfl
theorem cnt_cut {p : Nat → Bool} {z n : Nat} (h : z ≤ n) : cnt (fun i => decide (i < z) && p i) n = cnt p z := by
  obtain ⟨k, rfl⟩ : ∃ k, n = z + k := ⟨n - z, by omega⟩
  have e1 : cnt (fun i => decide (i < z) && p i) z = cnt p z := cnt_cg (fun k hk => by simp [hk])
  have e2 : cnt (fun k' => decide (z + k' < z) && p (z + k')) k = 0 := cnt_no (fun k' _ => by simp; intro w; omega)
  rw [cnt_split, e1, e2, Nat.add_zero]
def F1 (x m : Nat) : Nat := x - (x / 2 &&& m)
def F2 (x m : Nat) : Nat := (x &&& m) + (x / 4 &&& m)
def F3 (x m : Nat) : Nat := (x + x / 16) &&& m
theorem and256 {p q r s : Nat} (hp : p < 256) (hr : r < 256) : (256 * q + p) &&& (256 * s + r) = 256 * (q &&& s) + (p &&& r) := by
  apply Nat.eq_of_testBit_eq
  intro i
  have h1 : (p &&& r) < 2 ^ 8 := Nat.lt_of_le_of_lt Nat.and_le_left hp
  have h2 : p < 2 ^ 8 := hp
  have h3 : r < 2 ^ 8 := hr
  rw [Nat.testBit_and, show (256 : Nat) = 2 ^ 8 from rfl, Nat.testBit_two_pow_mul_add _ h2, Nat.testBit_two_pow_mul_add _ h3, Nat.testBit_two_pow_mul_add _ h1, Nat.testBit_and, Nat.testBit_and]
  split <;> rfl
theorem F1_d : ∀ a, a < 256 → ∀ t, t < 2 → (a / 2 + 128 * t) &&& 85 = a / 2 &&& 85 := by decide +kernel
theorem F2_d : ∀ a, a < 256 → ∀ t, t < 4 → (a / 4 + 64 * t) &&& 51 = a / 4 &&& 51 := by decide +kernel
theorem F3_d : ∀ a, a < 69 → ∀ t, t < 5 → (a + a / 16 + 16 * t) &&& 15 = (a + a / 16) &&& 15 := by decide +kernel
theorem F1_s {y a m : Nat} (ha : a < 256) : F1 (256 * y + a) (256 * m + 85) = 256 * F1 y m + F1 a 85 := by
  unfold F1
  have e : (256 * y + a) / 2 = 256 * (y / 2) + (a / 2 + 128 * (y % 2)) := by omega
  rw [e, and256 (by omega) (by decide), F1_d a ha _ (Nat.mod_lt _ (by decide))]
  have h1 : (y / 2 &&& m) ≤ y / 2 := Nat.and_le_left
  have h2 : (a / 2 &&& 85) ≤ a / 2 := Nat.and_le_left
  omega
theorem F2_s {y a m : Nat} (ha : a < 256) : F2 (256 * y + a) (256 * m + 51) = 256 * F2 y m + F2 a 51 := by
  unfold F2
  have e : (256 * y + a) / 4 = 256 * (y / 4) + (a / 4 + 64 * (y % 4)) := by omega
  rw [e, and256 (by omega) (by decide), and256 (by omega) (by decide), F2_d a ha _ (Nat.mod_lt _ (by decide))]
  omega
theorem F3_s {y a m : Nat} (ha : a < 69) (hy : y % 16 < 5) : F3 (256 * y + a) (256 * m + 15) = 256 * F3 y m + F3 a 15 := by
  unfold F3
  have e : (256 * y + a) + (256 * y + a) / 16 = 256 * (y + y / 16) + (a + a / 16 + 16 * (y % 16)) := by omega
  rw [e, and256 (by omega) (by decide), F3_d a ha _ hy]
theorem FB : ∀ b, b < 256 → F1 b 85 < 256 ∧ F2 (F1 b 85) 51 < 69 ∧ F2 (F1 b 85) 51 % 16 < 5 ∧ F3 (F2 (F1 b 85) 51) 15 = cnt b.testBit 8 ∧ cnt b.testBit 8 ≤ 8 := by decide +kernel
theorem F_5 {b0 b1 b2 b3 b4 : Nat} (h0 : b0 < 256) (h1 : b1 < 256) (h2 : b2 < 256) (h3 : b3 < 256) (h4 : b4 < 256) : F3 (F2 (F1 (256 * (256 * (256 * (256 * (256 * 0 + b4) + b3) + b2) + b1) + b0) 6148914691236517205) 3689348814741910323) 1085102592571150095 = 256 * (256 * (256 * (256 * cnt b4.testBit 8 + cnt b3.testBit 8) + cnt b2.testBit 8) + cnt b1.testBit 8) + cnt b0.testBit 8 := by
  obtain ⟨a0, c0, d0, e0, _⟩ := FB b0 h0
  obtain ⟨a1, c1, d1, e1, _⟩ := FB b1 h1
  obtain ⟨a2, c2, d2, e2, _⟩ := FB b2 h2
  obtain ⟨a3, c3, d3, e3, _⟩ := FB b3 h3
  obtain ⟨a4, c4, d4, e4, _⟩ := FB b4 h4
  rw [show (6148914691236517205 : Nat) = 256 * (256 * (256 * (256 * (256 * 5592405 + 85) + 85) + 85) + 85) + 85 from rfl, show (3689348814741910323 : Nat) = 256 * (256 * (256 * (256 * (256 * 3355443 + 51) + 51) + 51) + 51) + 51 from rfl, show (1085102592571150095 : Nat) = 256 * (256 * (256 * (256 * (256 * 986895 + 15) + 15) + 15) + 15) + 15 from rfl]
  rw [F1_s h0, F1_s h1, F1_s h2, F1_s h3, F1_s h4, F2_s a0, F2_s a1, F2_s a2, F2_s a3, F2_s a4]
  have z1 : F1 0 5592405 = 0 := by decide
  have z2 : F2 0 3355443 = 0 := by decide
  have z3 : F3 0 986895 = 0 := by decide
  rw [z1, z2, F3_s c0 (by omega), F3_s c1 (by omega), F3_s c2 (by omega), F3_s c3 (by omega), F3_s c4 (by omega), z3, e0, e1, e2, e3, e4]
  omega
theorem cntB {y a n : Nat} (ha : a < 256) : cnt (256 * y + a).testBit (8 + n) = cnt a.testBit 8 + cnt y.testBit n := by
  have h2 : a < 2 ^ 8 := ha
  rw [cnt_split]
  congr 1
  · refine cnt_cg (fun k hk => ?_)
    rw [show (256 : Nat) = 2 ^ 8 from rfl, Nat.testBit_two_pow_mul_add _ h2, if_pos hk]
  · refine cnt_cg (fun k hk => ?_)
    rw [show (256 : Nat) = 2 ^ 8 from rfl, Nat.testBit_two_pow_mul_add _ h2, if_neg (by omega), Nat.add_sub_cancel_left]
theorem lb1_n {x : Nat} (h : x < 2 ^ 40) : lb1 (x : Int) = ((F1 x 6148914691236517205 : Nat) : Int) := by
  have e : EqW (lUshr (x : Int) 1) (((x / 2 : Nat) : Int)) := EqW_i <| lUshr_n (k := 1) (by omega) (by omega)
  have e2 : EqW (lAnd ((x / 2 : Nat) : Int) 6148914691236517205) (((x / 2 &&& 6148914691236517205 : Nat) : Int)) := EqW_i <| lAnd_n (b := 6148914691236517205) (by omega)
  have e3 : (x / 2 &&& 6148914691236517205) ≤ x / 2 := Nat.and_le_left
  unfold lb1 F1
  rw [(EqW_o e), (EqW_o e2), w64s (by omega)]
  omega
theorem lb2_n {x : Nat} (h : x < 2 ^ 40) : lb2 (x : Int) = ((F2 x 3689348814741910323 : Nat) : Int) := by
  have e : EqW (lUshr (x : Int) 2) (((x / 4 : Nat) : Int)) := EqW_i <| lUshr_n (k := 2) (by omega) (by omega)
  have e2 : EqW (lAnd ((x / 4 : Nat) : Int) 3689348814741910323) (((x / 4 &&& 3689348814741910323 : Nat) : Int)) := EqW_i <| lAnd_n (b := 3689348814741910323) (by omega)
  have e4 : EqW (lAnd ((x : Nat) : Int) 3689348814741910323) (((x &&& 3689348814741910323 : Nat) : Int)) := EqW_i <| lAnd_n (b := 3689348814741910323) (by omega)
  have e3 : (x / 4 &&& 3689348814741910323) ≤ x / 4 := Nat.and_le_left
  have e5 : (x &&& 3689348814741910323) ≤ x := Nat.and_le_left
  unfold lb2 F2
  rw [(EqW_o e), (EqW_o e2), (EqW_o e4), w64s (by omega)]
  omega
theorem lb3_n {x : Nat} (h : x < 2 ^ 42) : lb3 (x : Int) = ((F3 x 1085102592571150095 : Nat) : Int) := by
  have e : EqW (lUshr (x : Int) 4) (((x / 16 : Nat) : Int)) := EqW_i <| lUshr_n (k := 4) (by omega) (by omega)
  have e2 : EqW (lAnd ((x + x / 16 : Nat) : Int) 1085102592571150095) ((((x + x / 16) &&& 1085102592571150095 : Nat) : Int)) := EqW_i <| lAnd_n (b := 1085102592571150095) (by omega)
  unfold lb3 F3
  rw [(EqW_o e), ← Int.natCast_add, w64s (by omega), (EqW_o e2)]
theorem lb4_n {x k j : Nat} (h : x < 2 ^ 45) (hk : k < 64) (hj : 2 ^ k = j) : lb4 (x : Int) (k : Int) = ((x + x / j : Nat) : Int) := by
  subst hj
  unfold lb4
  have hd : x / 2 ^ k ≤ x := Nat.div_le_self _ _
  rw [lUshr_n (by omega) hk, ← Int.natCast_add]
  generalize x / 2 ^ k = y at hd ⊢
  exact w64s (by omega)
theorem lbc_n {x : Nat} (h : x < 2 ^ 40) : lbc (x : Int) = (cnt x.testBit 40 : Int) := by
  obtain ⟨b0, b1, b2, b3, b4, h0, h1, h2, h3, h4, rfl⟩ : ∃ b0 b1 b2 b3 b4, b0 < 256 ∧ b1 < 256 ∧ b2 < 256 ∧ b3 < 256 ∧ b4 < 256 ∧ x = 256 * (256 * (256 * (256 * (256 * 0 + b4) + b3) + b2) + b1) + b0 := ⟨x % 256, x / 256 % 256, x / 65536 % 256, x / 16777216 % 256, x / 4294967296, by omega, by omega, by omega, by omega, by omega, by omega⟩
  obtain ⟨_, _, _, _, p0⟩ := FB b0 h0
  obtain ⟨_, _, _, _, p1⟩ := FB b1 h1
  obtain ⟨_, _, _, _, p2⟩ := FB b2 h2
  obtain ⟨_, _, _, _, p3⟩ := FB b3 h3
  obtain ⟨_, _, _, _, p4⟩ := FB b4 h4
  have hF := F_5 h0 h1 h2 h3 h4
  have hc : cnt (256 * (256 * (256 * (256 * (256 * 0 + b4) + b3) + b2) + b1) + b0).testBit 40 = cnt b0.testBit 8 + (cnt b1.testBit 8 + (cnt b2.testBit 8 + (cnt b3.testBit 8 + cnt b4.testBit 8))) := by
    rw [show (40 : Nat) = 8 + (8 + (8 + (8 + (8 + 0)))) from rfl, cntB h0, cntB h1, cntB h2, cntB h3, cntB h4]
    rfl
  rw [hc]
  generalize hX : 256 * (256 * (256 * (256 * (256 * 0 + b4) + b3) + b2) + b1) + b0 = X at h hF ⊢
  have l1 : F1 X 6148914691236517205 ≤ X := Nat.sub_le _ _
  have l2 : F2 (F1 X 6148914691236517205) 3689348814741910323 ≤ 2 * X := by
    have a1 : (F1 X 6148914691236517205 &&& 3689348814741910323) ≤ F1 X 6148914691236517205 := Nat.and_le_left
    have a2 : (F1 X 6148914691236517205 / 4 &&& 3689348814741910323) ≤ F1 X 6148914691236517205 / 4 := Nat.and_le_left
    unfold F2
    omega
  unfold lbc
  rw [lb1_n h, lb2_n (by omega), lb3_n (by omega), hF]
  generalize cnt b0.testBit 8 = q0 at *
  generalize cnt b1.testBit 8 = q1 at *
  generalize cnt b2.testBit 8 = q2 at *
  generalize cnt b3.testBit 8 = q3 at *
  generalize cnt b4.testBit 8 = q4 at *
  clear hF hc l1 l2 hX h
  have s1 : lb4 ((256 * (256 * (256 * (256 * q4 + q3) + q2) + q1) + q0 : Nat) : Int) 8 = _ := lb4_n (k := 8) (j := 256) (by omega) (by omega) rfl
  rw [s1]
  have s2 := lb4_n (x := 256 * (256 * (256 * (256 * q4 + q3) + q2) + q1) + q0 + (256 * (256 * (256 * (256 * q4 + q3) + q2) + q1) + q0) / 256) (k := 16) (j := 65536) (by omega) (by omega) rfl
  rw [show ((16 : Nat) : Int) = 16 from rfl] at s2
  rw [s2]
  generalize hY : 256 * (256 * (256 * (256 * q4 + q3) + q2) + q1) + q0 + (256 * (256 * (256 * (256 * q4 + q3) + q2) + q1) + q0) / 256 + (256 * (256 * (256 * (256 * q4 + q3) + q2) + q1) + q0 + (256 * (256 * (256 * (256 * q4 + q3) + q2) + q1) + q0) / 256) / 65536 = Y
  have s3 := lb4_n (x := Y) (k := 32) (j := 4294967296) (by omega) (by omega) rfl
  rw [show ((32 : Nat) : Int) = 32 from rfl] at s3
  rw [s3]
  have s5 : EqW (bAnd (w32 ((Y + Y / 4294967296 : Nat) : Int)) 127) ((((Y + Y / 4294967296) % 128 : Nat) : Int)) := EqW_i <| by
    unfold bAnd
    have e1 : Int32.ofInt (w32 ((Y + Y / 4294967296 : Nat) : Int)) = nI (Y + Y / 4294967296) := by
      have := oI_add ((Y + Y / 4294967296 : Nat) : Int) 0
      rw [oI_0, Int32.add_zero, Int.add_zero] at this
      rw [← this, oIn]
    rw [e1, show Int32.ofInt 127 = nI 127 from rfl, fa_and, show (127 : Nat) = 2 ^ 7 - 1 from rfl, Nat.and_two_pow_sub_one_eq_mod, nI_toInt (Nat.lt_of_lt_of_le (Nat.mod_lt _ (by decide)) (by decide))]
  rw [(EqW_o s5)]
  have d1 : (256 * (256 * (256 * (256 * q4 + q3) + q2) + q1) + q0) / 256 = 256 * (256 * (256 * q4 + q3) + q2) + q1 := by omega
  rw [d1] at hY
  have d2 : (256 * (256 * (256 * (256 * q4 + q3) + q2) + q1) + q0 + (256 * (256 * (256 * q4 + q3) + q2) + q1)) / 65536 = (256 * (256 * q4 + q3) + q2) + (256 * q4 + q3) := by omega
  rw [d2] at hY
  have d3 : Y / 4294967296 = q4 := by omega
  rw [d3]
  omega
theorem lbc_bs {p : Nat → Bool} {z : Nat} (hz : z ≤ 40) : lbc ((bs p z : Nat) : Int) = (cnt p z : Int) := by
  have h : bs p z < 2 ^ 40 := Nat.lt_of_lt_of_le (bs_lt p z) (Nat.pow_le_pow_right (by decide) hz)
  rw [lbc_n h, ← cnt_cut (p := p) hz, cnt_cg (fun k _ => bs_bit p z k)]
theorem ibc_8 : ∀ x : Nat, x < 256 → ibc (x : Int) = (cnt x.testBit 8 : Int) := by decide +kernel
theorem ibc_bs {p : Nat → Bool} {z : Nat} (hz : z ≤ 8) : ibc ((bs p z : Nat) : Int) = (cnt p z : Int) := by
  have h : bs p z < 2 ^ 8 := Nat.lt_of_lt_of_le (bs_lt p z) (Nat.pow_le_pow_right (by decide) hz)
  rw [ibc_8 _ h, ← cnt_cut (p := p) hz, cnt_cg (fun k _ => bs_bit p z k)]
theorem ibc_n {x : Nat} (h : x < 256) : ibc (x : Int) = (cnt x.testBit 8 : Int) := ibc_8 x h
/-- a number below 2 ^ z is the set of its bits -/
theorem bs_tb {x z : Nat} (h : x < 2 ^ z) : bs x.testBit z = x := by
  apply Nat.eq_of_testBit_eq
  intro i
  rw [bs_bit]
  by_cases hi : i < z
  · simp [hi]
  · simp [hi]
    exact Nat.testBit_lt_two_pow (Nat.lt_of_lt_of_le h (Nat.pow_le_pow_right (by decide) (by omega)))
theorem bs_cg {p q : Nat → Bool} {n : Nat} (h : ∀ k, k < n → p k = q k) : bs p n = bs q n := by
  apply Nat.eq_of_testBit_eq
  intro i
  rw [bs_bit, bs_bit]
  by_cases hi : i < n
  · rw [h i hi]
  · simp [hi]
theorem bs_orI {p : Nat → Bool} {n : Nat} (h : n < 30) : bOr ((bs p n : Nat) : Int) (if p n = true then bShl 1 (n : Int) else 0) = ((bs p (n + 1) : Nat) : Int) := by
  have h1 : bs p n < 2 ^ 31 := Nat.lt_of_lt_of_le (bs_lt p n) (Nat.pow_le_pow_right (by decide) (by omega))
  show _ = ((bs p n ||| (if p n = true then 2 ^ n else 0) : Nat) : Int)
  by_cases hp : p n = true
  · rw [if_pos hp, if_pos hp, ione_shl (by omega), bOr_n h1 (Nat.pow_lt_pow_right (by decide) (by omega))]
  · rw [if_neg hp, if_neg hp, show (0 : Int) = ((0 : Nat) : Int) from rfl, bOr_n h1 (by decide)]
