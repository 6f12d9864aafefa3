/-! calls that change little: alike -/
theorem byt_eq {v : Int} {s : Nat} (hs : s = 24 ∨ s = 16 ∨ s = 8 ∨ s = 0) : w8 (bShr v (s : Int)) % 256 = byt v (s : Int) := by
  have h1 : ∀ y : Int, w8 y % 256 = y % 256 := fun y => by unfold w8; omega
  rw [h1]
  have hk : s < 32 := by omega
  obtain ⟨x, hx, hv⟩ : ∃ x : Nat, x < 2 ^ 32 ∧ Int32.ofInt v = nI x := by
    refine ⟨(Int32.ofInt v).toBitVec.toNat, (Int32.ofInt v).toBitVec.isLt, ?_⟩
    apply Int32.toBitVec_inj.1
    show (Int32.ofInt v).toBitVec = BitVec.ofNat 32 (Int32.ofInt v).toBitVec.toNat
    rw [BitVec.ofNat_toNat, BitVec.setWidth_eq]
  have hxi : (nI x).toInt = (x : Int) ∨ (nI x).toInt = (x : Int) - 4294967296 := by
    show (BitVec.ofNat 32 x).toInt = _ ∨ (BitVec.ofNat 32 x).toInt = _
    rw [BitVec.toInt_eq_toNat_cond, BitVec.toNat_ofNat, Nat.mod_eq_of_lt hx]
    split
    · left; rfl
    · right; rfl
  have e1 : EqW (bShr v (s : Int)) ((nI x).toInt / 2 ^ s) := EqW_i <| by
    unfold bShr
    rw [hv, oIn]
    have e : (nI x >>> (nI s &&& 31)).toInt = (nI x).toInt >>> s := by
      conv => rhs; rw [← s_l s hk]
      exact BitVec.toInt_sshiftRight ..
    rw [e, Int.shiftRight_eq_div_pow]
    rfl
  have hd : x / 2 ^ s < 2 ^ 32 := Nat.lt_of_le_of_lt (Nat.div_le_self _ _) hx
  have e2 : byt v (s : Int) = ((x / 2 ^ s % 256 : Nat) : Int) := by
    unfold byt bAnd bUshr
    rw [hv, oIn, pk_ushrN hx _ s (s_u s hk), Int32.ofInt_toInt, show Int32.ofInt 255 = 255 from rfl, pk_and _ (m := 255) 8 rfl]
    have : (nI (x / 2 ^ s)).toBitVec.toNat = x / 2 ^ s := by
      show (BitVec.ofNat 32 (x / 2 ^ s)).toNat = _
      rw [BitVec.toNat_ofNat, Nat.mod_eq_of_lt hd]
    rw [this, nI_toInt (by omega)]
  rw [(EqW_o e1), e2]
  rcases hs with rfl | rfl | rfl | rfl
  · have : (2 : Int) ^ 24 = 16777216 := rfl
    rw [this]
    have : 2 ^ 24 = 16777216 := rfl
    rw [this]
    rcases hxi with e | e <;> rw [e] <;> omega
  · have : (2 : Int) ^ 16 = 65536 := rfl
    rw [this]
    have : 2 ^ 16 = 65536 := rfl
    rw [this]
    rcases hxi with e | e <;> rw [e] <;> omega
  · have : (2 : Int) ^ 8 = 256 := rfl
    rw [this]
    have : 2 ^ 8 = 256 := rfl
    rw [this]
    rcases hxi with e | e <;> rw [e] <;> omega
  · have : (2 : Int) ^ 0 = 1 := rfl
    rw [this]
    have : 2 ^ 0 = 1 := rfl
    rw [this]
    rcases hxi with e | e <;> rw [e] <;> omega
section
variable {M M' N N' : MM} {b : Bool} {t r c z n : Nat} {A B : Nat → Int} {V : GV} {u : Int} {U : List (Nat → Int)} {K : Nat → Option (Nat → Int)} {m : Nat} {F : Nat → Nat} {I : Nat → Bool} {T : Nat → Int} {ln : Nat} {R : List Int}
theorem WdC_id (h : WdC M b r c z n A B V u) (hs : ∀ p, 3 ≤ p → p < 13 → M' p = M p) (hq : M' (qr b) = M (qr b)) (hq1 : M' (qr b + 1) = M (qr b + 1)) (h14 : M' 1 14 = M 1 14) : WdC M' b r c z n A B V u := by
  obtain ⟨w1, w2, w3, w4, w5⟩ := h
  refine ⟨GrC_cg w1 (hs 3 (by omega) (by omega)) (hs 4 (by omega) (by omega)), SnC_same w2 (fun p q1 q2 => hs p (by omega) (by omega)), w3, RuV_same w4 hq hq1, ?_⟩
  rw [h14]; exact w5
theorem ToC_id (h : ToC M R) (h1 : M' 172 = M 172) (h2 : M' 173 = M 173) : ToC M' R := by
  unfold ToC at h ⊢; rw [h1, h2]; exact h
theorem RelR_fr {S S' : List Nat} (h : RelR N t r c z n A B V u U K m F I T ln R) (hf : Fr S S' N N') (hS : ∀ k, k ∈ [1, 2, 3, 4, 7, 9, 19, 27, 36, 37, 40] → k ∉ S) (hS' : ∀ k, k ∈ [2, 3, 4, 5, 7, 13, 19, 21, 22, 23] → k ∉ S') : RelR N' (t + 1) r c z n A B V u U K m F I T ln R := by
  obtain ⟨h1, h2, h3, h4, h5, h6⟩ := h
  refine ⟨WdR_frg h1 hf ⟨hS 1 (by decide), hS 2 (by decide), hS 3 (by decide), hS 4 (by decide), hS 19 (by decide)⟩ ⟨hS' 2 (by decide), hS' 3 (by decide), hS' 7 (by decide)⟩, UnR_fr h2 hf (hS 27 (by decide)) (hS' 13 (by decide)), KpR_t (KpR_fr h3 hf (hS 40 (by decide)) ⟨hS' 21 (by decide), hS' 22 (by decide), hS' 23 (by decide)⟩), ?_, TxR_fr h5 hf (hS 7 (by decide)) (hS' 4 (by decide)), ?_⟩
  · unfold PrR at h4 ⊢
    rw [hf.1 37 (hS 37 (by decide)), hf.1 36 (hS 36 (by decide)), hf.2 19 (by decide) (hS' 19 (by decide))]; exact h4
  · unfold ToR at h6 ⊢
    rw [hf.1 9 (hS 9 (by decide)), hf.2 5 (by decide) (hS' 5 (by decide))]; exact h6
theorem RelR_10 {x : Int} (h : RelR N t r c z n A B V u U K m F I T ln R) : RelR (uM N 1 10 x) (t + 1) r c z n A B V u U K m F I T ln R := RelR_fr (S := [10]) (S' := []) h (Fr_1 Fr_refl (by decide)) (by decide) (by decide)
/-- another text -/
theorem RelC_tx {T' : Nat → Int} {ln' : Nat} (h : RelC M b r c z n A B V u U K m F I T ln R) (hT : TxC M' T' ln') (h1 : ∀ j, j ≠ 1 → M' 1 j = M 1 j) (hs : ∀ p, p ≠ 1 → p ≠ 2 → M' p = M p) : RelC M' b r c z n A B V u U K m F I T' ln' R := by
  obtain ⟨a1, a2, a3, a4, a5, a6, a7, a8⟩ := h
  have hqn := qr_n (b := b)
  refine ⟨WdC_id a1 (fun p q1 q2 => hs p (by omega) (by omega)) (hs _ (by omega) (by omega)) (hs _ (by omega) (by omega)) (h1 14 (by decide)), UnC_sm a2 (fun p q1 q2 => hs p (by omega) (by omega)), KpC_sm a3 (fun p q1 q2 => hs p (by omega) (by omega)), ?_, hT, ToC_id a6 (hs _ (by decide) (by decide)) (hs _ (by decide) (by decide)), by rw [hs 0 (by decide) (by decide)]; exact a7, by rw [hs 174 (by decide) (by decide)]; exact a8⟩
  unfold PrC at a4 ⊢
  rw [h1 17 (by decide), h1 15 (by decide), h1 16 (by decide)]; exact a4
theorem RelR_tx {T' : Nat → Int} {ln' : Nat} (h : RelR N t r c z n A B V u U K m F I T ln R) (hT : TxR N' T' ln') (hf : Fr [7, 10] [4] N N') : RelR N' (t + 1) r c z n A B V u U K m F I T' ln' R := by
  obtain ⟨h1, h2, h3, h4, h5, h6⟩ := h
  refine ⟨WdR_frg h1 hf (by decide) (by decide), UnR_fr h2 hf (by decide) (by decide), KpR_t (KpR_fr h3 hf (by decide) (by decide)), ?_, hT, ?_⟩
  · unfold PrR at h4 ⊢
    rw [hf.1 37 (by decide), hf.1 36 (by decide), hf.2 19 (by decide) (by decide)]; exact h4
  · unfold ToR at h6 ⊢
    rw [hf.1 9 (by decide), hf.2 5 (by decide) (by decide)]; exact h6
end
theorem j_end {t : Nat} {k : Int} : Jn t 24 159 [pI k] := by
  intro P Q M N hR d hd
  obtain ⟨b, rd, r, c, z, n, A, B, V, u, U, K, m, F, I, T, ln, R, rfl, rfl, hC, hD, hU, hK⟩ := hR
  have e1 := c_end (b := b) (M := M) (n := k) d (by omega)
  have e2 := r_end (rd := rd) (ru := 7) (M := N) (v := k) d (by omega)
  have l1 : M 1 1 = (ln : Int) := hC.2.2.2.2.1.1
  have l2 : N 1 7 = (ln : Int) := hD.2.2.2.2.1.1
  rw [l1] at e1
  rw [l2] at e2
  by_cases hk : 0 ≤ k ∧ k ≤ (ln : Int)
  · rw [if_neg (by omega), if_neg (by omega)] at e1
    rw [if_pos hk, if_pos hk] at e2
    refine ⟨_, _, _, _, _, e1, e2, b, rd, r, c, z, n, A, B, V, u, U, K, m, F, I, T, k.toNat, R, rfl, rfl, RelC_tx hC ?_ (fun j hj => by simp [uM_at, hj]) (fun p h1 h2 => uM_ne h1), RelR_tx hD ?_ (Fr_1 (Fr_1 Fr_refl (by decide)) (by decide)), hU, hK⟩
    · obtain ⟨x1, x2, x3⟩ := hC.2.2.2.2.1
      exact ⟨by simp [uM_at]; omega, by omega, fun j hj => by rw [uM_ne (by decide)]; exact x3 j hj⟩
    · obtain ⟨x1, x2, x3⟩ := hD.2.2.2.2.1
      exact ⟨by simp [uM_at]; omega, by omega, fun j hj => by rw [uM_ne (by decide), uM_ne (by decide)]; exact x3 j hj⟩
  · rw [if_pos (by omega), if_pos (by omega)] at e1
    rw [if_neg hk, if_neg hk] at e2
    exact ⟨_, _, _, _, _, e1, e2, b, rd, r, c, z, n, A, B, V, u, U, K, m, F, I, T, ln, R, rfl, rfl, hC, RelR_10 hD, hU, hK⟩
def sgT (T : Nat → Int) (ln : Nat) (v : Int) : Nat → Int := fun j => if j = ln then byt v 24 else if j = ln + 1 then byt v 16 else if j = ln + 2 then byt v 8 else if j = ln + 3 then byt v 0 else T j
theorem j_sign {t : Nat} {k : Int} : Jn t 23 158 [pI k] := by
  intro P Q M N hR d hd
  obtain ⟨b, rd, r, c, z, n, A, B, V, u, U, K, m, F, I, T, ln, R, rfl, rfl, hC, hD, hU, hK⟩ := hR
  obtain ⟨x1, x2, x3⟩ := hC.2.2.2.2.1
  obtain ⟨y1, y2, y3⟩ := hD.2.2.2.2.1
  have e1 := c_sign (b := b) (v := k) x1 x2 d (by omega)
  have e2 := r_sign (rd := rd) (ru := 7) (v := k) y1 y2 d (by omega)
  by_cases hl : 76 < ln
  · rw [if_pos hl, if_pos hl] at e1
    rw [if_pos hl, if_pos hl] at e2
    exact ⟨_, _, _, _, _, e1, e2, b, rd, r, c, z, n, A, B, V, u, U, K, m, F, I, T, ln, R, rfl, rfl, hC, RelR_10 hD, hU, hK⟩
  · rw [if_neg hl, if_neg hl] at e1
    rw [if_neg hl, if_neg hl] at e2
    refine ⟨_, _, _, _, _, e1, e2, b, rd, r, c, z, n, A, B, V, u, U, K, m, F, I, sgT T ln k, ln + 4, R, rfl, rfl, RelC_tx hC ?_ (fun j hj => by simp [uM_at, hj]) (fun p h1 h2 => by rw [uM_ne h1, uM_ne h2, uM_ne h1, uM_ne h2, uM_ne h1, uM_ne h2, uM_ne h1, uM_ne h2]), RelR_tx hD ?_ ?_, hU, hK⟩
    · refine ⟨by simp [uM_at], by omega, fun j hj => ?_⟩
      have hx := x3 j hj
      unfold sgT
      by_cases j0 : j = ln
      · subst j0; simp [uM_at]; exact byt_r _ _
      by_cases j1 : j = ln + 1
      · subst j1; simp [uM_at]; exact byt_r _ _
      by_cases j2 : j = ln + 2
      · subst j2; simp [uM_at]; exact byt_r _ _
      by_cases j3 : j = ln + 3
      · subst j3; simp [uM_at]; exact byt_r _ _
      simp [uM_at, j0, j1, j2, j3]
      exact hx
    · refine ⟨by simp [uM_at], by omega, fun j hj => ?_⟩
      have hx := y3 j hj
      have w8r : ∀ q : Int, -128 ≤ w8 q ∧ w8 q < 128 := fun q => by unfold w8; omega
      unfold sgT
      by_cases j0 : j = ln
      · subst j0
        have := byt_eq (v := k) (s := 24) (by decide)
        simp [uM_at]
        exact ⟨this, w8r _⟩
      by_cases j1 : j = ln + 1
      · subst j1
        have := byt_eq (v := k) (s := 16) (by decide)
        simp [uM_at]
        exact ⟨this, w8r _⟩
      by_cases j2 : j = ln + 2
      · subst j2
        have := byt_eq (v := k) (s := 8) (by decide)
        simp [uM_at]
        exact ⟨this, w8r _⟩
      by_cases j3 : j = ln + 3
      · subst j3
        have := byt_eq (v := k) (s := 0) (by decide)
        simp [uM_at]
        exact ⟨this, w8r _⟩
      simp [uM_at, j0, j1, j2, j3]
      exact hx
    · exact Fr_o (Fr_1 (Fr_o (Fr_1 (Fr_o (Fr_1 (Fr_o (Fr_1 (Fr_1 Fr_refl (by decide)) (by decide)) (by decide) (by decide)) (by decide)) (by decide) (by decide)) (by decide)) (by decide) (by decide)) (by decide)) (by decide) (by decide)
theorem j_use {t : Nat} {k : Int} : Jn t 48 198 [pI k] := by
  intro P Q M N hR d hd
  obtain ⟨b, rd, r, c, z, n, A, B, V, u, U, K, m, F, I, T, ln, R, rfl, rfl, hC, hD, hU, hK⟩ := hR
  have e1 := c_use (b := b) (M := M) (v := k) d (by omega)
  have e2 := r_use (rd := rd) (ru := 7) (M := N) (v := k) d (by omega)
  have l1 : M 1 14 = u := hC.1.2.2.2.2.1
  have l2 : N 1 4 = u := hD.1.2.2.2.1
  rw [l1] at e1
  rw [l2] at e2
  by_cases hk : 1 ≤ k ∧ k ≤ 99
  · rw [if_neg (by omega), if_neg (by omega)] at e1
    rw [if_pos hk, if_pos hk] at e2
    obtain ⟨⟨w1, w2, w3, w4, w5, w6, w7, w8⟩, a2, a3, a4, a5, a6, a7, a8⟩ := hC
    obtain ⟨⟨v1, v2, v3, v4, v5, v6, v7⟩, b2, b3, b4, b5, b6⟩ := hD
    have hqn := qr_n (b := b)
    have hf : Fr [4, 10] [] N (uM (uM N 1 10 0) 1 4 k) := Fr_1 (Fr_1 Fr_refl (by decide)) (by decide)
    refine ⟨_, _, _, _, _, e1, e2, b, rd, r, c, z, n, A, B, V, k, U, K, m, F, I, T, ln, R, rfl, rfl, ⟨⟨GrC_cg w1 (uM_ne (by decide)) (uM_ne (by decide)), SnC_same w2 (fun p q1 q2 => uM_ne (by omega)), w3, RuV_same w4 (uM_ne (by omega)) (uM_ne (by omega)), by simp [uM_at], hk.1, hk.2, w8⟩, UnC_sm a2 (fun p q1 q2 => uM_ne (by omega)), KpC_sm a3 (fun p q1 q2 => uM_ne (by omega)), ?_, TxC_sm a5 (by simp [uM_at]) (uM_ne (by decide)), ToC_id a6 (uM_ne (by decide)) (uM_ne (by decide)), by rw [uM_ne (by decide)]; exact a7, by rw [uM_ne (by decide)]; exact a8⟩, ⟨⟨EnR_fr v1 hf (by decide) (by decide), ArR_fr v2 hf (by decide) (by decide), v3, by simp [uM_at], hk.1, hk.2, v7⟩, UnR_fr b2 hf (by decide) (by decide), KpR_t (KpR_fr b3 hf (by decide) (by decide)), ?_, TxR_fr b5 hf (by decide) (by decide), ?_⟩, hU, hK⟩
    · unfold PrC at a4 ⊢
      simp only [uM_at] at *
      simpa using a4
    · unfold PrR at b4 ⊢
      rw [hf.1 37 (by decide), hf.1 36 (by decide), hf.2 19 (by decide) (by decide)]; exact b4
    · unfold ToR at b6 ⊢
      rw [hf.1 9 (by decide), hf.2 5 (by decide) (by decide)]; exact b6
  · rw [if_pos (by omega), if_pos (by omega)] at e1
    rw [if_neg hk, if_neg hk] at e2
    exact ⟨_, _, _, _, _, e1, e2, b, rd, r, c, z, n, A, B, V, u, U, K, m, F, I, T, ln, R, rfl, rfl, hC, RelR_10 hD, hU, hK⟩
