/-! bits: rows of the kit's to-paste files (starting texts), then the pure machine's bit operations on small numbers -/
theorem pf_lI {a : Nat} (h : a < 2 ^ 63) : (lN a).toInt = (a : Int) := lg_ofNat_toInt h
theorem wb_tb (n : Nat) : (lN n).toBitVec = BitVec.ofNat 64 n := rfl
theorem wb_inj {a b : Int64} (h : a.toBitVec = b.toBitVec) : a = b := Int64.toBitVec_inj.mp h
theorem wb_tn {n : Nat} (h : n < 2 ^ 64) : (lN n).toBitVec.toNat = n := by rw [wb_tb, BitVec.toNat_ofNat, Nat.mod_eq_of_lt h]
theorem wb_c : ∀ k, k < 64 → ((nI k).toInt64 &&& 63) = lN k := by decide +kernel
theorem wb_cu : ∀ k, k < 64 → ((nI k).toInt64.toUInt64 &&& Int64.toUInt64 63) = UInt64.ofNat k := by decide +kernel
theorem wb_sm : ∀ k, k < 64 → (BitVec.ofNat 64 k).smod 64 = BitVec.ofNat 64 k := by decide +kernel
theorem wb_shr {n k : Nat} (hn : n < 2 ^ 64) (hk : k < 64) : ((lN n).toUInt64 >>> ((nI k).toInt64.toUInt64 &&& Int64.toUInt64 63)).toInt64 = lN (n / 2 ^ k) := by
  rw [wb_cu k hk]
  apply wb_inj
  apply BitVec.eq_of_toNat_eq
  show ((lN n).toUInt64 >>> UInt64.ofNat k).toNat = (BitVec.ofNat 64 _).toNat
  have h1 : (UInt64.ofNat k).toNat = k := by
    show (BitVec.ofNat 64 k).toNat = k
    rw [BitVec.toNat_ofNat, Nat.mod_eq_of_lt (by omega)]
  have h2 : (lN n).toUInt64.toNat = n := wb_tn hn
  rw [UInt64.toNat_shiftRight, h1, h2, Nat.mod_eq_of_lt hk, Nat.shiftRight_eq_div_pow, BitVec.toNat_ofNat, Nat.mod_eq_of_lt (Nat.lt_of_le_of_lt (Nat.div_le_self _ _) hn)]
theorem wb_shl (n : Nat) {k : Nat} (hk : k < 64) : lN n <<< ((nI k).toInt64 &&& 63) = lN (n * 2 ^ k) := by
  rw [wb_c k hk]
  apply wb_inj
  rw [Int64.toBitVec_shiftLeft, wb_tb, wb_tb, wb_tb, wb_sm k hk]
  apply BitVec.eq_of_toNat_eq
  rw [BitVec.shiftLeft_eq', BitVec.toNat_shiftLeft, BitVec.toNat_ofNat, BitVec.toNat_ofNat, BitVec.toNat_ofNat, Nat.mod_eq_of_lt (show k < 2 ^ 64 by omega), Nat.shiftLeft_eq, Nat.mul_mod, Nat.mod_mod, ← Nat.mul_mod]
theorem fb_andL (a b : Nat) : lN a &&& lN b = lN (a &&& b) := by
  apply Int64.toBitVec_inj.1
  show BitVec.ofNat 64 a &&& BitVec.ofNat 64 b = BitVec.ofNat 64 (a &&& b)
  apply BitVec.eq_of_getLsbD_eq
  intro i hi
  simp [hi]
theorem fb_orL (a b : Nat) : lN a ||| lN b = lN (a ||| b) := by
  apply Int64.toBitVec_inj.1
  show BitVec.ofNat 64 a ||| BitVec.ofNat 64 b = BitVec.ofNat 64 (a ||| b)
  apply BitVec.eq_of_getLsbD_eq
  intro i hi
  simp [hi]
theorem fb_xorL (a b : Nat) : lN a ^^^ lN b = lN (a ^^^ b) := by
  apply Int64.toBitVec_inj.1
  show BitVec.ofNat 64 a ^^^ BitVec.ofNat 64 b = BitVec.ofNat 64 (a ^^^ b)
  apply BitVec.eq_of_getLsbD_eq
  intro i hi
  simp [hi]
theorem fb_xorI (a b : Nat) : nI a ^^^ nI b = nI (a ^^^ b) := by
  apply Int32.toBitVec_inj.1
  show BitVec.ofNat 32 a ^^^ BitVec.ofNat 32 b = BitVec.ofNat 32 (a ^^^ b)
  apply BitVec.eq_of_getLsbD_eq
  intro i hi
  simp [hi]
theorem fa_and (a b : Nat) : nI a &&& nI b = nI (a &&& b) := by
  apply Int32.toBitVec_inj.1
  show BitVec.ofNat 32 a &&& BitVec.ofNat 32 b = BitVec.ofNat 32 (a &&& b)
  apply BitVec.eq_of_getLsbD_eq
  intro i hi
  simp [hi]
theorem fa_or (a b : Nat) : nI a ||| nI b = nI (a ||| b) := by
  apply Int32.toBitVec_inj.1
  show BitVec.ofNat 32 a ||| BitVec.ofNat 32 b = BitVec.ofNat 32 (a ||| b)
  apply BitVec.eq_of_getLsbD_eq
  intro i hi
  simp [hi]
theorem fb_bit_set (n j i : Nat) : (n ||| 2 ^ j).testBit i = (n.testBit i || decide (i = j)) := by
  rw [Nat.testBit_or]
  by_cases h : j = i
  · subst h; simp
  · have h2 : ¬ i = j := fun e => h e.symm
    first | (simp [Nat.testBit_two_pow, h, h2]; done) | (simp [Nat.testBit_two_pow_of_ne h, h2]; done)
theorem fb_bit_flip (n j i : Nat) : (n ^^^ 2 ^ j).testBit i = (n.testBit i ^^ decide (i = j)) := by
  rw [Nat.testBit_xor]
  by_cases h : j = i
  · subst h; simp
  · have h2 : ¬ i = j := fun e => h e.symm
    first | (simp [Nat.testBit_two_pow, h, h2]; done) | (simp [Nat.testBit_two_pow_of_ne h, h2]; done)
theorem pf_shr {a d : Nat} {D : Int64} (hD : (D.toBitVec.smod 64).toNat = d) (h : a < 2 ^ 62) : lN a >>> D = lN (a / 2 ^ d) := by
  have hd : a / 2 ^ d ≤ a := Nat.div_le_self _ _
  apply Int64.toInt_inj.mp
  have e : (lN a >>> D).toInt = (lN a).toInt >>> d := by
    rw [← hD]
    exact BitVec.toInt_sshiftRight ..
  rw [e, Int.shiftRight_eq_div_pow, pf_lI (by omega), pf_lI (by omega)]
  rfl
theorem s_l : ∀ n, n < 32 → ((nI n &&& 31).toBitVec.smod 32).toNat = n := by decide +kernel
theorem s_u : ∀ n, n < 32 → (((nI n).toUInt32 &&& Int32.toUInt32 31).toBitVec % 32).toNat = n := by decide +kernel

theorem oLn (n : Nat) : Int64.ofInt (n : Int) = lN n := rfl
theorem oIn (n : Nat) : Int32.ofInt (n : Int) = nI n := rfl
theorem lOr_n {a b : Nat} (ha : a < 2 ^ 63) (hb : b < 2 ^ 63) : lOr (a : Int) (b : Int) = ((a ||| b : Nat) : Int) := by
  unfold lOr
  rw [oLn, oLn, fb_orL, pf_lI (Nat.or_lt_two_pow ha hb)]
theorem lAnd_n {a b : Nat} (ha : a < 2 ^ 63) : lAnd (a : Int) (b : Int) = ((a &&& b : Nat) : Int) := by
  unfold lAnd
  rw [oLn, oLn, fb_andL, pf_lI (Nat.lt_of_le_of_lt Nat.and_le_left ha)]
theorem lAnd_n2 {a b : Nat} (hb : b < 2 ^ 63) : lAnd (a : Int) (b : Int) = ((a &&& b : Nat) : Int) := by
  unfold lAnd
  rw [oLn, oLn, fb_andL, pf_lI (Nat.lt_of_le_of_lt Nat.and_le_right hb)]
theorem lXor_n {a b : Nat} (ha : a < 2 ^ 63) (hb : b < 2 ^ 63) : lXor (a : Int) (b : Int) = ((a ^^^ b : Nat) : Int) := by
  unfold lXor
  rw [oLn, oLn, fb_xorL, pf_lI (Nat.xor_lt_two_pow ha hb)]
theorem lShl_n {a k : Nat} (hk : k < 64) (h : a * 2 ^ k < 2 ^ 63) : lShl (a : Int) (k : Int) = ((a * 2 ^ k : Nat) : Int) := by
  unfold lShl
  rw [oLn, oIn, wb_shl a hk, pf_lI h]
theorem lUshr_n {a k : Nat} (ha : a < 2 ^ 63) (hk : k < 64) : lUshr (a : Int) (k : Int) = ((a / 2 ^ k : Nat) : Int) := by
  unfold lUshr
  rw [oLn, oIn, wb_shr (by omega) hk, pf_lI (Nat.lt_of_le_of_lt (Nat.div_le_self _ _) ha)]
theorem wb_sl : ∀ k, k < 64 → (((nI k).toInt64 &&& 63).toBitVec.smod 64).toNat = k := by decide +kernel
theorem lShr_n {a k : Nat} (ha : a < 2 ^ 62) (hk : k < 64) : lShr (a : Int) (k : Int) = ((a / 2 ^ k : Nat) : Int) := by
  unfold lShr
  rw [oLn, oIn, pf_shr (wb_sl k hk) ha, pf_lI (Nat.lt_of_le_of_lt (Nat.div_le_self _ _) (by omega))]
theorem tb_div (a k : Nat) : a / 2 ^ k % 2 = (a.testBit k).toNat := by
  rw [Nat.testBit_eq_decide_div_mod_eq]
  have : a / 2 ^ k % 2 < 2 := Nat.mod_lt _ (by decide)
  by_cases h : a / 2 ^ k % 2 = 1
  · simp [h]
  · simp [h]
    omega
/-- the bit that hasBit asks for -/
theorem bit_n {a k : Nat} (ha : a < 2 ^ 63) (hk : k < 64) : lAnd (lUshr (a : Int) (k : Int)) 1 = ((a.testBit k).toNat : Int) := by
  rw [lUshr_n ha hk, show (1 : Int) = ((1 : Nat) : Int) from rfl, lAnd_n2 (by decide), Nat.and_one_is_mod, tb_div]
theorem bit_s {a k : Nat} (ha : a < 2 ^ 62) (hk : k < 64) : lAnd (lShr (a : Int) (k : Int)) 1 = ((a.testBit k).toNat : Int) := by
  rw [lShr_n ha hk, show (1 : Int) = ((1 : Nat) : Int) from rfl, lAnd_n2 (by decide), Nat.and_one_is_mod, tb_div]
theorem one_shl {k : Nat} (hk : k < 63) : lShl 1 (k : Int) = ((2 ^ k : Nat) : Int) := by
  have h : 1 * 2 ^ k < 2 ^ 63 := by rw [Nat.one_mul]; exact Nat.pow_lt_pow_right (by decide) hk
  rw [show (1 : Int) = ((1 : Nat) : Int) from rfl, lShl_n (by omega) h, Nat.one_mul]
theorem bAnd_n {a b : Nat} (ha : a < 2 ^ 31) : bAnd (a : Int) (b : Int) = ((a &&& b : Nat) : Int) := by
  unfold bAnd
  rw [oIn, oIn, fa_and, nI_toInt (Nat.lt_of_le_of_lt Nat.and_le_left ha)]
theorem bOr_n {a b : Nat} (ha : a < 2 ^ 31) (hb : b < 2 ^ 31) : bOr (a : Int) (b : Int) = ((a ||| b : Nat) : Int) := by
  unfold bOr
  rw [oIn, oIn, fa_or, nI_toInt (Nat.or_lt_two_pow ha hb)]
theorem bXor_n {a b : Nat} (ha : a < 2 ^ 31) (hb : b < 2 ^ 31) : bXor (a : Int) (b : Int) = ((a ^^^ b : Nat) : Int) := by
  unfold bXor
  rw [oIn, oIn, fb_xorI, nI_toInt (Nat.xor_lt_two_pow ha hb)]
theorem bShl_n {a k : Nat} (hk : k < 32) (h : a * 2 ^ k < 2 ^ 31) : bShl (a : Int) (k : Int) = ((a * 2 ^ k : Nat) : Int) := by
  unfold bShl
  rw [oIn, oIn, pk_shlN _ k (s_l k hk) (by omega), nI_toInt h]
theorem bShr_n {a k : Nat} (ha : a < 2 ^ 31) (hk : k < 32) : bShr (a : Int) (k : Int) = ((a / 2 ^ k : Nat) : Int) := by
  unfold bShr
  rw [oIn, oIn, pk_shrN ha _ k (s_l k hk), nI_toInt (Nat.lt_of_le_of_lt (Nat.div_le_self _ _) ha)]
theorem bUshr_n {a k : Nat} (ha : a < 2 ^ 31) (hk : k < 32) : bUshr (a : Int) (k : Int) = ((a / 2 ^ k : Nat) : Int) := by
  unfold bUshr
  rw [oIn, oIn, pk_ushrN (by omega) _ k (s_u k hk), nI_toInt (Nat.lt_of_le_of_lt (Nat.div_le_self _ _) ha)]
theorem ione_shl {k : Nat} (hk : k < 31) : bShl 1 (k : Int) = ((2 ^ k : Nat) : Int) := by
  have h : 1 * 2 ^ k < 2 ^ 31 := by rw [Nat.one_mul]; exact Nat.pow_lt_pow_right (by decide) hk
  rw [show (1 : Int) = ((1 : Nat) : Int) from rfl, bShl_n (by omega) h, Nat.one_mul]
/-- the set of the places below n that have the property, as bits -/
def bs (p : Nat → Bool) : Nat → Nat
  | 0 => 0
  | n + 1 => bs p n ||| (if p n then 2 ^ n else 0)
theorem bs_lt (p : Nat → Bool) : ∀ n, bs p n < 2 ^ n
  | 0 => Nat.one_pos
  | n + 1 => by
    have h := bs_lt p n
    have h2 : 2 ^ n < 2 ^ (n + 1) := Nat.pow_lt_pow_right (by decide) (by omega)
    unfold bs
    refine Nat.or_lt_two_pow (by omega) ?_
    split
    · exact h2
    · omega
theorem bs_bit (p : Nat → Bool) : ∀ n i, (bs p n).testBit i = (decide (i < n) && p i)
  | 0, i => by simp [bs]
  | n + 1, i => by
    unfold bs
    rw [Nat.testBit_or, bs_bit p n i]
    by_cases h : i = n
    · subst h
      cases p i <;> simp
    · cases hp : p n
      · have : decide (i < n) = decide (i < n + 1) := by simp; omega
        rw [this]
        simp
      · simp only [if_true]
        rw [Nat.testBit_two_pow]
        have : decide (n = i) = false := by simp; omega
        rw [this, Bool.or_false]
        congr 1
        simp
        omega
