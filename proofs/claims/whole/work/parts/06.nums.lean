/-! numbers: the machine's Int32, Int64 beside the pure machine's Int -/
theorem w32_bmod (x : Int) : w32 x = x.bmod (2 ^ 32) := by
  unfold w32 Int.bmod
  dsimp only
  split <;> omega
theorem w64_bmod (x : Int) : w64 x = x.bmod (2 ^ 64) := by
  unfold w64 Int.bmod
  dsimp only
  split <;> omega
theorem w16_bmod (x : Int) : w16 x = x.bmod (2 ^ 16) := by
  unfold w16 Int.bmod
  dsimp only
  split <;> omega
theorem w8_bmod (x : Int) : w8 x = x.bmod (2 ^ 8) := by
  unfold w8 Int.bmod
  dsimp only
  split <;> omega
theorem r32_w (x : Int) : r32 (w32 x) := by unfold r32 w32; omega
theorem r64_w (x : Int) : r64 (w64 x) := by unfold r64 w64; omega
theorem w32_id {x : Int} (h : r32 x) : w32 x = x := by unfold r32 at h; unfold w32; omega
theorem w64_id {x : Int} (h : r64 x) : w64 x = x := by unfold r64 at h; unfold w64; omega
theorem oI_toInt {x : Int} (h : r32 x) : (Int32.ofInt x).toInt = x := by
  rw [Int32.toInt_ofInt, ← w32_bmod, w32_id h]
theorem oL_toInt {x : Int} (h : r64 x) : (Int64.ofInt x).toInt = x := by
  rw [Int64.toInt_ofInt, ← w64_bmod, w64_id h]
theorem toI (i : Int32) : Int32.ofInt i.toInt = i := Int32.ofInt_toInt i
theorem toL (i : Int64) : Int64.ofInt i.toInt = i := Int64.ofInt_toInt i
theorem r32_i (i : Int32) : r32 i.toInt := by
  have h1 := Int32.le_toInt i
  have h2 := Int32.toInt_lt i
  unfold r32
  omega
theorem r64_i (i : Int64) : r64 i.toInt := by
  have h1 := Int64.le_toInt i
  have h2 := Int64.toInt_lt i
  unfold r64
  omega
theorem iw {i : Int32} {z : Int} (h : i.toInt = w32 z) : i = Int32.ofInt (w32 z) := by rw [← h, toI]
theorem lw9 {i : Int64} {z : Int} (h : i.toInt = w64 z) : i = Int64.ofInt (w64 z) := by rw [← h, toL]
theorem oI_add (x y : Int) : Int32.ofInt x + Int32.ofInt y = Int32.ofInt (w32 (x + y)) := iw (by simp [w32_bmod])
theorem oI_sub (x y : Int) : Int32.ofInt x - Int32.ofInt y = Int32.ofInt (w32 (x - y)) := iw (by simp [w32_bmod])
theorem oI_mul (x y : Int) : Int32.ofInt x * Int32.ofInt y = Int32.ofInt (w32 (x * y)) := iw (by simp [w32_bmod])
theorem oI_neg (x : Int) : -Int32.ofInt x = Int32.ofInt (w32 (-x)) := iw (by simp [w32_bmod])
theorem oL_add (x y : Int) : Int64.ofInt x + Int64.ofInt y = Int64.ofInt (w64 (x + y)) := lw9 (by simp [w64_bmod])
theorem oL_sub (x y : Int) : Int64.ofInt x - Int64.ofInt y = Int64.ofInt (w64 (x - y)) := lw9 (by simp [w64_bmod])
theorem oL_mul (x y : Int) : Int64.ofInt x * Int64.ofInt y = Int64.ofInt (w64 (x * y)) := lw9 (by simp [w64_bmod])
theorem oI_eq {x y : Int} (hx : r32 x) (hy : r32 y) : Int32.ofInt x = Int32.ofInt y ↔ x = y := by
  rw [← Int32.toInt_inj, oI_toInt hx, oI_toInt hy]
theorem oL_eq {x y : Int} (hx : r64 x) (hy : r64 y) : Int64.ofInt x = Int64.ofInt y ↔ x = y := by
  rw [← Int64.toInt_inj, oL_toInt hx, oL_toInt hy]
theorem oI_lt {x y : Int} (hx : r32 x) (hy : r32 y) : Int32.ofInt x < Int32.ofInt y ↔ x < y := by
  rw [Int32.lt_iff_toInt_lt, oI_toInt hx, oI_toInt hy]
theorem oI_le {x y : Int} (hx : r32 x) (hy : r32 y) : Int32.ofInt x ≤ Int32.ofInt y ↔ x ≤ y := by
  rw [Int32.le_iff_toInt_le, oI_toInt hx, oI_toInt hy]
theorem oL_lt {x y : Int} (hx : r64 x) (hy : r64 y) : Int64.ofInt x < Int64.ofInt y ↔ x < y := by
  rw [Int64.lt_iff_toInt_lt, oL_toInt hx, oL_toInt hy]
theorem r32_0 : r32 0 := by unfold r32; omega
theorem oI_0 : Int32.ofInt 0 = 0 := rfl
theorem oI_eq0 {x : Int} (hx : r32 x) : Int32.ofInt x = 0 ↔ x = 0 := by rw [← oI_0]; exact oI_eq hx r32_0
theorem oI_lt0 {x : Int} (hx : r32 x) : Int32.ofInt x < 0 ↔ x < 0 := by rw [← oI_0]; exact oI_lt hx r32_0
theorem oI_0lt {x : Int} (hx : r32 x) : 0 < Int32.ofInt x ↔ 0 < x := by rw [← oI_0]; exact oI_lt r32_0 hx
theorem oI_0le {x : Int} (hx : r32 x) : 0 ≤ Int32.ofInt x ↔ 0 ≤ x := by rw [← oI_0]; exact oI_le r32_0 hx
theorem oI_le0 {x : Int} (hx : r32 x) : Int32.ofInt x ≤ 0 ↔ x ≤ 0 := by rw [← oI_0]; exact oI_le hx r32_0
theorem oI_nat {x : Int} (hx : r32 x) : (Int32.ofInt x).toNatClampNeg = x.toNat := by
  show (Int32.ofInt x).toInt.toNat = x.toNat
  rw [oI_toInt hx]
theorem oI_in {x : Int} {n : Nat} (hx : r32 x) (h0 : 0 ≤ x) (h1 : x < n) : vp_in (Int32.ofInt x) n := by
  rintro (h | h)
  · rw [oI_lt0 hx] at h; omega
  · rw [oI_nat hx] at h; omega
theorem oL_0 : Int64.ofInt 0 = 0 := rfl
theorem r64_0 : r64 0 := by unfold r64; omega
theorem oI_div {x y : Int} (hx : r32 x) (hy : r32 y) : Int32.ofInt x / Int32.ofInt y = Int32.ofInt (w32 (x.tdiv y)) := iw (by rw [Int32.toInt_div, oI_toInt hx, oI_toInt hy, w32_bmod])
theorem oL_div {x y : Int} (hx : r64 x) (hy : r64 y) : Int64.ofInt x / Int64.ofInt y = Int64.ofInt (w64 (x.tdiv y)) := lw9 (by rw [Int64.toInt_div, oL_toInt hx, oL_toInt hy, w64_bmod])
theorem tmod_abs (x y : Int) : (0 ≤ x → 0 ≤ x.tmod y ∧ x.tmod y ≤ x) ∧ (x ≤ 0 → x ≤ x.tmod y ∧ x.tmod y ≤ 0) := by
  have hn : (x.tmod y).natAbs ≤ x.natAbs := by rw [Int.natAbs_tmod]; exact Nat.mod_le _ _
  constructor
  · intro h
    have h1 := Int.tmod_nonneg y h
    omega
  · intro h
    have h1 : 0 ≤ (-x).tmod y := Int.tmod_nonneg y (by omega)
    rw [Int.neg_tmod] at h1
    omega
theorem tmod_r32 {x y : Int} (hx : r32 x) : r32 (x.tmod y) := by
  have h := tmod_abs x y
  unfold r32 at *
  rcases Int.le_total 0 x with q | q
  · have := h.1 q; omega
  · have := h.2 q; omega
theorem tmod_r64 {x y : Int} (hx : r64 x) : r64 (x.tmod y) := by
  have h := tmod_abs x y
  unfold r64 at *
  rcases Int.le_total 0 x with q | q
  · have := h.1 q; omega
  · have := h.2 q; omega
theorem oI_rem {x y : Int} (hx : r32 x) (hy : r32 y) : Int32.ofInt x - Int32.ofInt x / Int32.ofInt y * Int32.ofInt y = Int32.ofInt (x.tmod y) := by
  rw [← Int32.toInt_inj, oI_toInt (tmod_r32 hx), Int32.toInt_sub, Int32.toInt_mul, Int32.toInt_div, oI_toInt hx, oI_toInt hy]
  have e : x - x.tdiv y * y = x.tmod y := by
    have := Int.tdiv_mul_add_tmod x y
    omega
  rw [show (x - ((x.tdiv y).bmod (2 ^ 32) * y).bmod (2 ^ 32)).bmod (2 ^ 32) = (x - x.tdiv y * y).bmod (2 ^ 32) by simp, e, ← w32_bmod, w32_id (tmod_r32 hx)]
theorem oL_rem {x y : Int} (hx : r64 x) (hy : r64 y) : Int64.ofInt x - Int64.ofInt x / Int64.ofInt y * Int64.ofInt y = Int64.ofInt (x.tmod y) := by
  rw [← Int64.toInt_inj, oL_toInt (tmod_r64 hx), Int64.toInt_sub, Int64.toInt_mul, Int64.toInt_div, oL_toInt hx, oL_toInt hy]
  have e : x - x.tdiv y * y = x.tmod y := by
    have := Int.tdiv_mul_add_tmod x y
    omega
  rw [show (x - ((x.tdiv y).bmod (2 ^ 64) * y).bmod (2 ^ 64)).bmod (2 ^ 64) = (x - x.tdiv y * y).bmod (2 ^ 64) by simp, e, ← w64_bmod, w64_id (tmod_r64 hx)]
theorem oI_i2l {x : Int} (hx : r32 x) : (Int32.ofInt x).toInt64 = Int64.ofInt x := by
  rw [← Int64.toInt_inj, Int32.toInt_toInt64, oI_toInt hx, oL_toInt (by unfold r32 at hx; unfold r64; omega)]
theorem oL_l2i (x : Int) (hx : r64 x) : (Int64.ofInt x).toInt32 = Int32.ofInt (w32 x) := by
  rw [← Int32.toInt_inj, Int64.toInt_toInt32, oL_toInt hx, oI_toInt (r32_w x), w32_bmod]
theorem r32_w8 (x : Int) : r32 (w8 x) := by unfold r32 w8; omega
theorem r32_w16 (x : Int) : r32 (w16 x) := by unfold r32 w16; omega
theorem oI_i2b {x : Int} (hx : r32 x) : (Int32.ofInt x).toInt8.toInt32 = Int32.ofInt (w8 x) := by
  rw [← Int32.toInt_inj, Int8.toInt_toInt32, Int32.toInt_toInt8, oI_toInt hx, oI_toInt (r32_w8 x), w8_bmod]
theorem oI_i2s {x : Int} (hx : r32 x) : (Int32.ofInt x).toInt16.toInt32 = Int32.ofInt (w16 x) := by
  rw [← Int32.toInt_inj, Int16.toInt_toInt32, Int32.toInt_toInt16, oI_toInt hx, oI_toInt (r32_w16 x), w16_bmod]
theorem r32_c (x : Int) : r32 (x % 65536) := by unfold r32; omega
theorem oI_tn (x : Int) : (Int32.ofInt x).toBitVec.toNat = (x % 4294967296).toNat := by
  show (BitVec.ofInt 32 x).toNat = _
  rw [BitVec.toNat_ofInt]
  rfl
theorem oI_i2c (x : Int) : ((Int32.ofInt x).toUInt32 % 65536).toInt32 = Int32.ofInt (x % 65536) := by
  rw [pk_char, oI_tn]
  have h : (((x % 4294967296).toNat % 65536 : Nat) : Int) = x % 65536 := by omega
  rw [← h]
  rfl
theorem oI_bipush {n : Int} (h1 : -128 ≤ n) (h2 : n < 128) : (Int8.ofInt n).toInt32 = Int32.ofInt n := by
  rw [← Int32.toInt_inj, Int8.toInt_toInt32, Int8.toInt_ofInt, oI_toInt (by unfold r32; omega), ← w8_bmod]
  unfold w8
  omega
theorem oI_sipush {n : Int} (h1 : -32768 ≤ n) (h2 : n < 32768) : (Int16.ofInt n).toInt32 = Int32.ofInt n := by
  rw [← Int32.toInt_inj, Int16.toInt_toInt32, Int16.toInt_ofInt, oI_toInt (by unfold r32; omega), ← w16_bmod]
  unfold w16
  omega
theorem oL_cmp {x y : Int} (hx : r64 x) (hy : r64 y) : lg_cmp (Int64.ofInt x) (Int64.ofInt y) = Int32.ofInt (lCmp x y) := by
  unfold lg_cmp lCmp
  simp only [gt_iff_lt, oL_lt hy hx, oL_eq hx hy]
  split
  · rfl
  · split <;> rfl
theorem r32_lCmp (x y : Int) : r32 (lCmp x y) := by
  unfold lCmp r32
  split
  · omega
  · split <;> omega
theorem oI_max {x y : Int} (hx : r32 x) (hy : r32 y) : (if Int32.ofInt x < Int32.ofInt y then Int32.ofInt y else Int32.ofInt x) = Int32.ofInt (if x < y then y else x) := by
  simp only [oI_lt hx hy]
  split <;> rfl
theorem oI_abs {x : Int} (hx : r32 x) : (if 0 ≤ Int32.ofInt x then Int32.ofInt x else 0 - Int32.ofInt x) = Int32.ofInt (if 0 ≤ x then x else w32 (0 - x)) := by
  simp only [oI_0le hx]
  split
  · rfl
  · rw [← oI_0, oI_sub]
