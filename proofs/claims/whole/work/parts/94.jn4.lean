/-! count, undo, kept states, sheet, rule, law: alike -/
theorem wsum_b {p : Nat → Prop} [∀ f, Decidable (p f)] : ∀ {z : Nat}, z ≤ 36 → wsum (fun f => if p f then 1 else 0) z = (cnt (fun f => decide (p f)) z : Int)
  | 0, _ => rfl
  | z + 1, hz => by
    have hl := cnt_le (fun f => decide (p f)) z
    rw [wsum_s, wsum_b (z := z) (by omega)]
    by_cases h : p z
    · rw [if_pos h, cnt_t (p := fun f => decide (p f)) (decide_eq_true h)]
      exact w32n (by omega)
    · rw [if_neg h, cnt_f (p := fun f => decide (p f)) (decide_eq_false h)]
      exact w32s (by omega)
theorem j_count {t : Nat} {w : Int} : Jn t 152 268 [pI w] := by
  intro P Q M N hR d hd
  obtain ⟨b, rd, r, c, z, n, A, B, V, u, U, K, m, F, I, T, ln, R, rfl, rfl, hC, hD, hU, hK⟩ := hR
  have hz := GrC_z hC.1.1
  have hzr : r * c = z := hD.1.1.2.1.symm
  have e1 := c_count (b := b) (w := w) (z := z) ⟨GrC_s hC.1.1, hz.1, hz.2⟩ d (by omega)
  have e2 := r_count (rd := rd) (ru := 7) (w := w) hD.1.1.1 d (by omega)
  rw [hzr] at e2
  have key : cntC M z w = cntR N z w := by
    obtain ⟨⟨w1, w2, w3, w4, w5, w6, w7, w8⟩, ⟨nx, ⟨_, _, a2, _⟩, _⟩, a3, a4, a5, a6, a7, a8⟩ := hC
    obtain ⟨⟨v1, v2, v3, v4, v5, v6, v7⟩, b2, b3, b4, b5, b6⟩ := hD
    obtain ⟨s1, s2, s3, s4, s5⟩ := w2
    unfold cntC cntR
    have q6 : ∀ x : Int, bs (fun f => decide (M 6 f = x)) z = bs (fun f => decide (A f = x)) z := fun x => bs_cg (fun f hf => by rw [(s1 f hf).1])
    have q6' : ∀ x : Int, wsum (fun f => if N 2 f = x then (1 : Int) else 0) z = (cnt (fun f => decide (A f = x)) z : Int) := fun x => by
      rw [← wsum_b hz.2]
      exact wsum_cg (fun f hf => by rw [v2 f (by omega)])
    have q5 : wsum (fun f => N 2 (72 + f)) z = (cnt (lkB A) z : Int) := by
      rw [← wsum_lk hz.2 (fun f hf => (w3.2.1 f hf).2.2)]
      exact wsum_cg (fun f hf => v2 (72 + f) (by omega))
    have q10 : wsum (M 7) z = wsum (fun f => N 2 (36 + f)) z := wsum_cg (fun f hf => by rw [v2 (36 + f) (by omega)]; exact (s1 f hf).2)
    by_cases c1 : 6 ≤ w ∧ w ≤ 9
    · rw [if_pos c1, if_pos c1, q6, q6', lbc_bs (by omega)]
    rw [if_neg c1, if_neg c1]
    by_cases c2 : w = 0
    · rw [if_pos c2, if_pos c2, w1.2.2.2.2.2.1, v1.1.1]
    rw [if_neg c2, if_neg c2]
    by_cases c2 : w = 1
    · rw [if_pos c2, if_pos c2, w1.2.2.2.2.2.2.1, v1.1.2.1]
    rw [if_neg c2, if_neg c2]
    by_cases c2 : w = 2
    · rw [if_pos c2, if_pos c2, s4, v1.1.2.2.1]
    rw [if_neg c2, if_neg c2]
    by_cases c2 : w = 3
    · rw [if_pos c2, if_pos c2, w5, v4]
    rw [if_neg c2, if_neg c2]
    by_cases c2 : w = 4
    · rw [if_pos c2, if_pos c2, s3, v2 132 (by decide)]
    rw [if_neg c2, if_neg c2]
    by_cases c2 : w = 5
    · rw [if_pos c2, if_pos c2, s2, q5, lbc_bs (by omega)]; rfl
    rw [if_neg c2, if_neg c2]
    by_cases c2 : w = 10
    · rw [if_pos c2, if_pos c2, q10]
    rw [if_neg c2, if_neg c2]
    by_cases c2 : w = 11
    · rw [if_pos c2, if_pos c2, a4.1, b4.1]
    rw [if_neg c2, if_neg c2]
    by_cases c2 : w = 12
    · rw [if_pos c2, if_pos c2, a2, b2.1]
    rw [if_neg c2, if_neg c2]
    by_cases c2 : w = 13
    · rw [if_pos c2, if_pos c2, a6.1, b6.1]
    rw [if_neg c2, if_neg c2]
    by_cases c2 : w = 14
    · rw [if_pos c2, if_pos c2, a5.1, b5.1]
    rw [if_neg c2, if_neg c2]
  rw [key] at e1
  exact ⟨_, _, _, _, _, e1, e2, b, rd, r, c, z, n, A, B, V, u, U, K, m, F, I, T, ln, R, rfl, rfl, hC, RelR_10 hD, hU, hK⟩
section
variable {M M' N N' : MM} {b : Bool} {t r c z n : Nat} {A A' B : Nat → Int} {V : GV} {u : Int} {U U' : List (Nat → Int)} {K K' : Nat → Option (Nat → Int)} {m : Nat} {F : Nat → Nat} {I : Nat → Bool} {T : Nat → Int} {ln : Nat} {R : List Int}
theorem KpC_sm' (h : KpC M K B z n) (hs : ∀ p, p ≠ 29 → (p < 5 ∨ 13 ≤ p) → M' p = M p) : KpC M' K B z n := by
  intro i hi
  obtain ⟨h1, h2⟩ := h i hi
  rw [hs 32 (by decide) (by omega)]
  exact ⟨h1, fun A' e => ⟨(h2 A' e).1, SnC_same (h2 A' e).2 (fun p q1 q2 => hs p (by omega) (by omega))⟩⟩
theorem UnC_sm2 (h : UnC M U B z n) (hs : ∀ p, p ≠ 32 → 29 ≤ p → p < 129 → M' p = M p) : UnC M' U B z n := by
  obtain ⟨nx, h1, h2⟩ := h
  refine ⟨nx, ?_, fun k hk => SnC_same (h2 k hk) (fun p q1 q2 => hs p (by omega) (by omega) (by omega))⟩
  unfold pastI at h1 ⊢
  rw [hs 29 (by decide) (by decide) (by decide)]; exact h1
/-- another state, other states to undo or kept; all else as it was -/
theorem RelC_st (h : RelC M b r c z n A B V u U K m F I T ln R) (hS : SnC M' 5 A' B z n) (hV : SnO B z n A') (hU : UnC M' U' B z n) (hK : KpC M' K' B z n) (hs : ∀ p, p < 5 ∨ 145 ≤ p → M' p = M p) : RelC M' b r c z n A' B V u U' K' m F I T ln R := by
  obtain ⟨⟨w1, w2, w3, w4, w5, w6, w7, w8⟩, a2, a3, a4, a5, a6, a7, a8⟩ := h
  have hqn := qr_n (b := b)
  refine ⟨⟨GrC_cg w1 (hs 3 (by omega)) (hs 4 (by omega)), hS, hV.1, RuV_same w4 (hs _ (by omega)) (hs _ (by omega)), by rw [hs 1 (by omega)]; exact w5, w6, w7, hV.2⟩, hU, hK, ?_, TxC_sm a5 (by rw [hs 1 (by omega)]) (hs 2 (by omega)), ToC_id a6 (hs _ (by omega)) (hs _ (by omega)), by rw [hs 0 (by omega)]; exact a7, by rw [hs 174 (by omega)]; exact a8⟩
  unfold PrC at a4 ⊢
  rw [hs 1 (by omega)]; exact a4
theorem RelR_st (h : RelR N t r c z n A B V u U K m F I T ln R) (hA : ArR N' 2 A') (hV : SnO B z n A') (hU : UnR N' U') (hK : KpR N' K' (t + 1)) (hf : Fr [10, 27] [2, 13, 21, 22, 23] N N') : RelR N' (t + 1) r c z n A' B V u U' K' m F I T ln R := by
  obtain ⟨⟨v1, v2, v3, v4, v5, v6, v7⟩, b2, b3, b4, b5, b6⟩ := h
  refine ⟨⟨EnR_fr v1 hf (by decide) (by decide), hA, hV.1, by rw [hf.1 4 (by decide)]; exact v4, v5, v6, hV.2⟩, hU, hK, ?_, TxR_fr b5 hf (by decide) (by decide), ?_⟩
  · unfold PrR at b4 ⊢
    rw [hf.1 37 (by decide), hf.1 36 (by decide), hf.2 19 (by decide) (by decide)]; exact b4
  · unfold ToR at b6 ⊢
    rw [hf.1 9 (by decide), hf.2 5 (by decide) (by decide)]; exact b6
end
theorem j_undo {t : Nat} : Jn t 89 218 [] := by
  intro P Q M N hR d hd
  obtain ⟨b, rd, r, c, z, n, A, B, V, u, U, K, m, F, I, T, ln, R, rfl, rfl, hC, hD, hU, hK⟩ := hR
  obtain ⟨nx, hp, hus⟩ := hC.2.1
  obtain ⟨u1, u2, u3⟩ := hD.2.1
  have hz := GrC_z hC.1.1
  have hn6 := hC.1.2.2.1.1
  obtain ⟨x, P1, M1, e1, rfl, q1⟩ := c_undo (b := b) hp d (by omega)
  obtain ⟨x', Q1, N1, e2, rfl, q2⟩ := r_undo (rd := rd) (ru := 7) u1 u2 d (by omega)
  cases U with
  | nil =>
    rw [if_pos (show ([] : List (Nat → Int)).length = 0 from rfl)] at q1 q2
    obtain ⟨rfl, rfl⟩ := q1
    obtain ⟨rfl, rfl⟩ := q2
    exact ⟨_, _, _, _, _, e1, e2, b, rd, r, c, z, n, A, B, V, u, [], K, m, F, I, T, ln, R, rfl, rfl, hC, RelR_10 hD, hU, hK⟩
  | cons A1 U1 =>
    have hl : (A1 :: U1).length = U1.length + 1 := rfl
    rw [hl] at q1 q2 u1 u2 u3 hus hp
    rw [if_neg (Nat.succ_ne_zero _)] at q1 q2
    rw [Nat.add_sub_cancel] at q1 q2 u3
    obtain ⟨rfl, q4, q5, q6⟩ := q1
    obtain ⟨rfl, r4, r5, r6, r7⟩ := q2
    have hnx := hp.2.1
    have h0 : SnC M (33 + 8 * ((nx + 11) % 12)) A1 B z n := hus 0 (by omega)
    have hv1 : SnO B z n A1 := hU 0 (by rw [hl]; omega)
    refine ⟨_, _, _, _, _, e1, e2, b, rd, r, c, z, n, A1, B, V, u, U1, K, m, F, I, T, ln, R, rfl, rfl, RelC_st hC (SnC_eq h0 q4 hz.2 hn6) hv1 ⟨(nx + 11) % 12, q5, fun k hk => ?_⟩ (KpC_sm' hC.2.2.1 q6) (fun p hp => q6 p (by omega) (by omega)), RelR_st hD (fun j hj => ?_) hv1 ⟨r4, by omega, fun k hk i hi => ?_⟩ (KpR_t (KpR_fr hD.2.2.1 r6 (by decide) (by decide))) (Fr_mono r6 (by simp) (by simp)), fun k hk => ?_, hK⟩
    · have := hus (k + 1) (by omega)
      rw [show ((nx + 11) % 12 + 11 - k) % 12 = (nx + 11 - (k + 1)) % 12 by omega]
      refine SnC_same this (fun p q1 q2 => q6 p (by omega) (by omega))
    · rw [r7 j hj]
      have := u3 0 (by omega) j hj
      rw [Nat.sub_zero] at this
      exact this
    · have := u3 (k + 1) (by omega) i hi
      rw [r6.2 13 (by decide) (by decide), show U1.length - 1 - k = U1.length - (k + 1) by omega]
      exact this
    · exact hU (k + 1) (by rw [hl]; omega)
theorem j_keep {t : Nat} {i : Int} : Jn t 148 266 [pI i] := by
  intro P Q M N hR d hd
  obtain ⟨b, rd, r, c, z, n, A, B, V, u, U, K, m, F, I, T, ln, R, rfl, rfl, hC, hD, hU, hK⟩ := hR
  have hz := GrC_z hC.1.1
  have hn6 := hC.1.2.2.1.1
  obtain ⟨x, P1, M1, e1, rfl, q1⟩ := c_keep (b := b) (M := M) (i := i) d (by omega)
  obtain ⟨x', Q1, N1, e2, rfl, q2⟩ := r_keep (rd := rd) (ru := 7) (M := N) (i := i) d (by omega)
  by_cases hi : 0 ≤ i ∧ i ≤ 1
  · rw [if_neg (by omega)] at q1
    rw [if_pos hi] at q2
    obtain ⟨rfl, a1, a2, a3, a4⟩ := q1
    obtain ⟨rfl, b1, b2, b3, b4, b5⟩ := q2
    obtain ⟨k, rfl⟩ : ∃ k : Nat, i = (k : Int) := ⟨i.toNat, by omega⟩
    rw [Int.toNat_natCast] at a1 a2 a3 a4 b3 b4 b5
    have hk : k < 2 := by omega
    obtain ⟨⟨cm, c1, c2, c3⟩, c4⟩ := hD.2.2.1
    have hSV : SnO B z n A := ⟨hC.1.2.2.1, hC.1.2.2.2.2.2.2.2⟩
    refine ⟨_, _, _, _, _, e1, e2, b, rd, r, c, z, n, A, B, V, u, U, upN K k (some A), m, F, I, T, ln, R, rfl, rfl, RelC_st hC (SnC_same hC.1.2.1 (fun p q1 q2 => a4 p (by omega) (by omega))) hSV (UnC_sm2 hC.2.1 (fun p q1 q2 q3 => a4 p (by omega) (by omega))) (fun j hj => ?_) (fun p hp => a4 p (by omega) (by omega)), RelR_st hD (ArR_fr hD.1.2.1 b2 (by decide) (by decide)) hSV (UnR_fr hD.2.1 b2 (by decide) (by decide)) ⟨⟨cm, by rw [b2.1 40 (by decide)]; exact c1, by omega, fun j hj => ?_⟩, fun j hj => ?_⟩ (Fr_mono b2 (by simp) (by simp)), hU, fun j A2 hj e => ?_⟩
    · unfold upN
      by_cases ej : j = k
      · subst ej
        rw [if_pos rfl]
        exact ⟨fun w => (by cases w), fun A2 w => by cases w; exact ⟨a2, SnC_eq hC.1.2.1 a1 hz.2 hn6⟩⟩
      · rw [if_neg ej]
        obtain ⟨d1, d2⟩ := hC.2.2.1 j hj
        rw [a3 j ej]
        exact ⟨d1, fun A2 w => ⟨(d2 A2 w).1, SnC_same (d2 A2 w).2 (fun p q1 q2 => a4 p (by omega) (by omega))⟩⟩
    · rw [b4, uM_at, if_pos rfl]
      by_cases ej : j = k
      · rw [if_pos ej, c1]; exact Int.le_refl _
      · rw [if_neg ej]; exact c3 j hj
    · rw [b3, b4, b5, b2.1 40 (by decide), uM_at, if_pos rfl, uM_at, if_pos rfl]
      unfold upN
      by_cases ej : j = k
      · subst ej
        simp only [if_true]
        refine ⟨⟨fun _ w => (by cases w), fun _ => ⟨by decide, trivial⟩⟩, fun A2 w q hq => ?_⟩
        cases w
        rw [cM_at, if_pos rfl, if_pos (by omega), Nat.zero_add, show 133 * j + q - 133 * j = q by omega]
        exact hD.1.2.1 q hq
      · simp only [if_neg ej]
        obtain ⟨d1, d2⟩ := c4 j hj
        refine ⟨d1, fun A2 w q hq => ?_⟩
        rw [cM_at, if_pos rfl, if_neg (by omega)]
        exact d2 A2 w q hq
    · unfold upN at e
      by_cases ej : j = k
      · rw [if_pos ej] at e; cases e; exact hSV
      · rw [if_neg ej] at e; exact hK j A2 hj e
  · rw [if_pos (by omega)] at q1
    rw [if_neg hi] at q2
    obtain ⟨rfl, rfl⟩ := q1
    obtain ⟨rfl, rfl⟩ := q2
    exact ⟨_, _, _, _, _, e1, e2, b, rd, r, c, z, n, A, B, V, u, U, K, m, F, I, T, ln, R, rfl, rfl, hC, RelR_10 hD, hU, hK⟩
theorem j_again {t : Nat} {i : Int} : Jn t 150 267 [pI i] := by
  intro P Q M N hR d hd
  obtain ⟨b, rd, r, c, z, n, A, B, V, u, U, K, m, F, I, T, ln, R, rfl, rfl, hC, hD, hU, hK⟩ := hR
  have hz := GrC_z hC.1.1
  have hn6 := hC.1.2.2.1.1
  obtain ⟨x, P1, M1, e1, rfl, q1⟩ := c_again (b := b) (M := M) (i := i) d (by omega)
  obtain ⟨x', Q1, N1, e2, rfl, q2⟩ := r_again (rd := rd) (ru := 7) (M := N) (i := i) d (by omega)
  have no : (i < 0 ∨ 2 ≤ i ∨ M 32 i.toNat = 0) → ¬ ((0 ≤ i ∧ i ≤ 1) ∧ N 22 i.toNat ≠ 0 ∧ N 23 i.toNat = N 1 40) → ∃ v P' M' Q' N', Ev d 150 [pR 1, pI i] (kz LC) (PC b) M (some v) (kz LC) P' M' ∧ Ev d 267 [pR 1, pI i] (kz LR) (PR rd 7) N (some v) (kz LR) Q' N' ∧ Rel (t + 1) P' Q' M' N' := fun h1 h2 => by
    rw [if_pos h1] at q1
    rw [if_neg h2] at q2
    obtain ⟨rfl, rfl⟩ := q1
    obtain ⟨rfl, rfl⟩ := q2
    exact ⟨_, _, _, _, _, e1, e2, b, rd, r, c, z, n, A, B, V, u, U, K, m, F, I, T, ln, R, rfl, rfl, hC, RelR_10 hD, hU, hK⟩
  by_cases hi : 0 ≤ i ∧ i ≤ 1
  case neg => exact no (by omega) (fun w => hi w.1)
  obtain ⟨k, rfl⟩ : ∃ k : Nat, i = (k : Int) := ⟨i.toNat, by omega⟩
  rw [Int.toNat_natCast] at q1 q2 no
  have hk : k < 2 := by omega
  obtain ⟨d1, d2⟩ := hC.2.2.1 k hk
  obtain ⟨c1, c2⟩ := hD.2.2.1.2 k hk
  cases hKk : K k with
  | none => exact no (Or.inr (Or.inr (d1 hKk))) (fun w => c1.mp w.2 hKk)
  | some A1 =>
    obtain ⟨f1, f2⟩ := d2 A1 hKk
    rw [if_neg (by rw [f1]; omega)] at q1
    rw [if_pos ⟨hi, c1.mpr (by rw [hKk]; exact fun w => by cases w)⟩] at q2
    obtain ⟨rfl, a1, a2, a3, a4⟩ := q1
    obtain ⟨rfl, b1, b2, b3, b4⟩ := q2
    have hv1 : SnO B z n A1 := hK k A1 hk hKk
    obtain ⟨nx, hp, hus⟩ := hC.2.1
    refine ⟨_, _, _, _, _, e1, e2, b, rd, r, c, z, n, A1, B, V, u, [], K, m, F, I, T, ln, R, rfl, rfl, RelC_st hC (SnC_eq f2 a1 hz.2 hn6) hv1 ⟨nx, ⟨by rw [a3 3 (by decide)]; exact hp.1, hp.2.1, a2, by decide⟩, fun k hk => absurd hk (Nat.not_lt_zero _)⟩ (KpC_sm' hC.2.2.1 a4) (fun p hp => a4 p (by omega) (by omega)), RelR_st hD (fun j hj => ?_) hv1 ⟨b3, by decide, fun k hk => absurd hk (Nat.not_lt_zero _)⟩ (KpR_t (KpR_fr hD.2.2.1 b2 (by decide) (by decide))) (Fr_mono b2 (by simp) (by simp)), fun k hk => absurd hk (Nat.not_lt_zero _), hK⟩
    rw [b4 j hj]
    exact c2 A1 hKk j hj
def shA (A g : Nat → Int) (z : Nat) : Nat → Int := fun j => if 36 ≤ j ∧ j < 36 + z then g (j - 36) else A j
theorem SnO_sh {A B g : Nat → Int} {z n : Nat} (h : SnO B z n A) (hz : z ≤ 36) (hg : ∀ k, 0 ≤ g k ∧ g k ≤ 99) : SnO B z n (shA A g z) := by
  have h1 : ∀ j, (j < 36 ∨ 72 ≤ j) → shA A g z j = A j := fun j hj => by unfold shA; rw [if_neg (by omega)]
  have h2 : ∀ f, f < z → shA A g z (36 + f) = g f := fun f hf => by unfold shA; rw [if_pos (by omega), show 36 + f - 36 = f by omega]
  obtain ⟨⟨a1, a2, a3, a4⟩, a5⟩ := h
  refine ⟨⟨a1, fun f hf => ?_, fun k hk => ?_, by rw [h1 132 (by omega)]; exact a4⟩, ?_⟩
  · rw [h1 f (by omega), h2 f hf, h1 (72 + f) (by omega)]
    exact ⟨(a2 f hf).1, hg f, (a2 f hf).2.2⟩
  · rw [h1 (108 + k) (by omega), h1 (114 + k) (by omega), h1 (120 + k) (by omega), h1 (126 + k) (by omega)]
    exact a3 k hk
  · unfold LkV at a5 ⊢
    rw [cnt_cg (q := fun f => decide (A (72 + f) = 1)) (fun f _ => by rw [h1 (72 + f) (by omega)])]; exact a5
theorem j_sheet {t : Nat} {kk k f st : Int} : Jn t 49 199 [pI kk, pI k, pI f, pI st] := by
  intro P Q M N hR d hd
  obtain ⟨b, rd, r, c, z, n, A, B, V, u, U, K, m, F, I, T, ln, R, rfl, rfl, hC, hD, hU, hK⟩ := hR
  have hz := GrC_z hC.1.1
  have hn6 := hC.1.2.2.1.1
  have hzr : r * c = z := hD.1.1.2.1.symm
  have e1 := c_sheet (b := b) (kk := kk) (k := k) (f := f) (st := st) (z := z) ⟨GrC_s hC.1.1, hz.1, hz.2⟩ d (by omega)
  have e2 := r_sheet (rd := rd) (ru := 7) (kk := kk) (k := k) (f := f) (st := st) hD.1.1.1 d (by omega)
  rw [hzr] at e2
  by_cases c1 : kk < 0 ∨ 3 < kk ∨ 36 < k
  · rw [if_pos c1, if_pos c1] at e1
    rw [if_pos c1, if_pos c1] at e2
    exact ⟨_, _, _, _, _, e1, e2, b, rd, r, c, z, n, A, B, V, u, U, K, m, F, I, T, ln, R, rfl, rfl, hC, RelR_10 hD, hU, hK⟩
  rw [if_neg c1, if_neg c1] at e1
  rw [if_neg c1, if_neg c1] at e2
  by_cases c2 : kk < 3 ∧ k < 0
  · rw [if_pos c2, if_pos c2] at e1
    rw [if_pos c2, if_pos c2] at e2
    exact ⟨_, _, _, _, _, e1, e2, b, rd, r, c, z, n, A, B, V, u, U, K, m, F, I, T, ln, R, rfl, rfl, hC, RelR_10 hD, hU, hK⟩
  rw [if_neg c2, if_neg c2] at e1
  rw [if_neg c2, if_neg c2] at e2
  have hg : ∀ j, 0 ≤ shV kk k f st j ∧ shV kk k f st j ≤ 99 := fun j => by
    unfold shV
    split
    · omega
    · exact cl99_r _
  generalize shV kk k f st = g at e1 e2 hg
  have hSV : SnO B z n (shA A g z) := SnO_sh ⟨hC.1.2.2.1, hC.1.2.2.2.2.2.2.2⟩ hz.2 hg
  have hs : ∀ p, p ≠ 7 → rM M 7 0 z g p = M p := fun p hp => rM_ne hp
  have hf : Fr [10] [2] N (rM (uM N 1 10 0) 2 36 z g) := Fr_r (Fr_1 Fr_refl (by decide)) (by decide) (by decide)
  refine ⟨_, _, _, _, _, e1, e2, b, rd, r, c, z, n, shA A g z, B, V, u, U, K, m, F, I, T, ln, R, rfl, rfl, RelC_st hC ?_ hSV (UnC_sm hC.2.1 (fun p q1 q2 => hs p (by omega))) (KpC_sm hC.2.2.1 (fun p q1 q2 => hs p (by omega))) (fun p hp => hs p (by omega)), RelR_st hD (fun j hj => ?_) hSV (UnR_fr hD.2.1 hf (by decide) (by decide)) (KpR_t (KpR_fr hD.2.2.1 hf (by decide) (by decide))) (Fr_mono hf (by simp) (by simp)), hU, hK⟩
  · have h1 : ∀ j, (j < 36 ∨ 72 ≤ j) → shA A g z j = A j := fun j hj => by unfold shA; rw [if_neg (by omega)]
    have h2 : ∀ f, f < z → shA A g z (36 + f) = g f := fun f hf => by unfold shA; rw [if_pos (by omega), show 36 + f - 36 = f by omega]
    obtain ⟨s1, s2, s3, s4, s5⟩ := hC.1.2.1
    refine ⟨fun f hf => ?_, ?_, ?_, ?_, fun q hq => ?_⟩
    · rw [hs 6 (by decide), rM_in0 hf, h1 f (by omega), h2 f hf]
      exact ⟨(s1 f hf).1, rfl⟩
    · rw [hs 5 (by decide), bs_cg (q := fun f => decide (A (72 + f) = 1)) (fun f _ => by rw [h1 (72 + f) (by omega)])]; exact s2
    · rw [hs 5 (by decide), h1 132 (by omega)]; exact s3
    · rw [hs 5 (by decide)]; exact s4
    · rw [hs 8 (by decide), hs 9 (by decide), hs 10 (by decide), hs 11 (by decide), hs 12 (by decide), h1 (108 + q) (by omega), h1 (114 + q) (by omega), h1 (120 + q) (by omega), h1 (126 + q) (by omega)]
      exact s5 q hq
  · unfold rM shA
    rw [if_pos rfl]
    by_cases e : 36 ≤ j ∧ j < 36 + z
    · rw [if_pos e, if_pos e]
    · rw [if_neg e, if_neg e, uM_ne (by decide)]; exact hD.1.2.1 j hj
