/-! rule, law: alike -/
section
variable {M M' N N' : MM} {b : Bool} {t r c z n : Nat} {A A' B : Nat → Int} {V V' : GV} {u : Int} {U U' : List (Nat → Int)} {K K' : Nat → Option (Nat → Int)} {m : Nat} {F : Nat → Nat} {I : Nat → Bool} {T : Nat → Int} {ln : Nat} {R R' : List Int}
theorem RelC_lw (h : RelC M b r c z n A B V u U K m F I T ln R) (hs : ∀ p, ¬ scr p → p ∉ [qr (!b), qr (!b) + 1, qr (!b) + 3, qr (!b) + 4] → M' p = uM M 1 1 0 p) (hT : ToC M' R') : RelC M' b r c z n A B V u U K m F I T 0 R' ∧ (RuV M' (qr (!b)) V' → RelC M' (!b) r c z n A B V' u U K m F I T 0 R') := by
  obtain ⟨a1, a2, a3, a4, a5, a6, a7, a8⟩ := h
  have hlo : ∀ p, p < 13 ∨ (29 ≤ p ∧ p < 145) ∨ p = 174 → p ≠ 1 → M' p = M p := fun p hp h1 => by
    rw [hs p (by unfold scr; omega) (fun w => by have := qr_l w; omega), uM_ne h1]
  have hid : ∀ j, j ≠ 1 → M' 1 j = M 1 j := fun j hj => by
    rw [hs 1 (by unfold scr; omega) (fun w => by have := qr_l w; omega)]; simp [uM_at, hj]
  have h11 : M' 1 1 = 0 := by
    rw [hs 1 (by unfold scr; omega) (fun w => by have := qr_l w; omega)]; simp [uM_at]
  have hqn := qr_n (b := b)
  have hq0 : M' (qr b) = M (qr b) := by rw [hs _ qr_scr.1 (fun w => (qr_l w).2.2.1 rfl), uM_ne (by omega)]
  have hq1 : M' (qr b + 1) = M (qr b + 1) := by rw [hs _ qr_scr.2.1 (fun w => (qr_l w).2.2.2 rfl), uM_ne (by omega)]
  have hW : WdC M' b r c z n A B V u := WdC_id a1 (fun p q1 q2 => hlo p (by omega) (by omega)) hq0 hq1 (hid 14 (by decide))
  have hX : TxC M' T 0 := ⟨h11, by decide, by rw [hlo 2 (by omega) (by decide)]; exact a5.2.2⟩
  have hPr : PrC M' z m F I := by
    unfold PrC at a4 ⊢
    rw [hid 17 (by decide), hid 15 (by decide), hid 16 (by decide)]; exact a4
  have hUn := UnC_sm a2 (fun p q1 q2 => hlo p (by omega) (by omega))
  have hKp := KpC_sm a3 (fun p q1 q2 => hlo p (by omega) (by omega))
  have h0 : ∀ j, j < 13 → M' 0 j = plT j := by rw [hlo 0 (by omega) (by decide)]; exact a7
  have h174 : M' 174 0 = 0 := by rw [hlo 174 (by omega) (by decide)]; exact a8
  refine ⟨⟨hW, hUn, hKp, hPr, hX, hT, h0, h174⟩, fun hR => ⟨?_, hUn, hKp, hPr, hX, hT, h0, h174⟩⟩
  obtain ⟨w1, w2, w3, w4, w5⟩ := hW
  exact ⟨w1, w2, w3, hR, w5⟩
end
theorem j_rule {t : Nat} : Jn t 38 175 [] := by
  intro P Q M N hR d hd
  obtain ⟨b, rd, r, c, z, n, A, B, V, u, U, K, m, F, I, T, ln, R, rfl, rfl, hC, hD, hU, hK⟩ := hR
  obtain ⟨x, P1, M1, e1, ⟨b', rfl, p1, p2⟩, p3⟩ := c_rule (b := b) hC.2.2.2.2.1 hC.2.2.2.2.2.2.1 d (by omega)
  obtain ⟨x', Q1, N1, e2, rfl, q1, q2, q3, q4, q5⟩ := r_rule (rd := rd) (ru := 7) (Or.inl rfl) hD.2.2.2.2.1 d (by omega)
  have hTo : ToC M1 R := ToC_id hC.2.2.2.2.2.1 (by rw [p3 172 (fun w => by have := qr_l w; omega), uM_ne (by decide)]) (by rw [p3 173 (fun w => by have := qr_l w; omega), uM_ne (by decide)])
  have hRR : ∀ V', RuR N1 7 V' → RelR N1 (t + 1) r c z n A B V' u U K m F I T 0 R := fun V' hru => by
    obtain ⟨⟨⟨v0, v1, v1', _⟩, v2, v3, v4, v5, v6, v7⟩, b2, b3, b4, b5, b6⟩ := hD
    refine ⟨⟨⟨RD_fr v0 q1 (by decide), v1, fun g hg => by rw [q1.2 3 (by decide) (by decide)]; exact v1' g hg, hru⟩, ArR_fr v2 q1 (by decide) (by decide), v3, by rw [q1.1 4 (by decide)]; exact v4, v5, v6, v7⟩, UnR_fr b2 q1 (by decide) (by decide), KpR_t (KpR_fr b3 q1 (by decide) (by decide)), ?_, ⟨q2, by decide, by rw [q1.2 4 (by decide) (by decide)]; exact b5.2.2⟩, ?_⟩
    · unfold PrR at b4 ⊢
      rw [q1.1 37 (by decide), q1.1 36 (by decide), q1.2 19 (by decide) (by decide)]; exact b4
    · unfold ToR at b6 ⊢
      rw [q1.1 9 (by decide), q1.2 5 (by decide) (by decide)]; exact b6
  cases hg : gRead T ln with
  | inl w =>
    obtain ⟨rfl, rfl⟩ := p1 w hg
    obtain ⟨rfl, r1, r2⟩ := q4 w hg
    refine ⟨_, _, _, _, _, e1, e2, b', 4, r, c, z, n, A, B, V, u, U, K, m, F, I, T, 0, R, rfl, rfl, (RelC_lw (V' := V) hC (fun p _ hp => p3 p hp) hTo).1, hRR V ?_, hU, hK⟩
    obtain ⟨s0, k, T0, s1, s2, s3, s4⟩ := hD.1.1.2.2.2
    exact ⟨s0, k, T0, by rw [r1]; exact s1, s2, fun j hj => by rw [r2]; exact s3 j hj, s4⟩
  | inr V' =>
    obtain ⟨rfl, rfl, hru⟩ := p2 V' hg
    obtain ⟨rfl, hrr⟩ := q5 V' hg
    exact ⟨_, _, _, _, _, e1, e2, !b, 4, r, c, z, n, A, B, V', u, U, K, m, F, I, T, 0, R, rfl, rfl, (RelC_lw hC (fun p _ hp => p3 p hp) hTo).2 hru, hRR V' hrr, hU, hK⟩
theorem j_law {t : Nat} : Jn t 144 262 [] := by
  intro P Q M N hR d hd
  obtain ⟨b, rd, r, c, z, n, A, B, V, u, U, K, m, F, I, T, ln, R, rfl, rfl, hC, hD, hU, hK⟩ := hR
  obtain ⟨x, P1, M1, e1, rfl, rfl, p1, p2, p3⟩ := c_law (b := b) hC.1 hC.2.2.2.2.1 hC.2.2.2.2.2.2.1 d (by omega)
  obtain ⟨x', Q1, N1, e2, ⟨rd', rfl⟩, rfl, q1, q2, q3, q4, q5⟩ := r_law (rd := rd) hD.1 hD.2.2.2.2.1 d (by omega)
  have hTo : ToC M1 ((qLaw c z n V A B T ln).2.getD R) := by
    cases ho : (qLaw c z n V A B T ln).2 with
    | none => exact ToC_id hC.2.2.2.2.2.1 (p2 ho).1 (p2 ho).2
    | some R' => exact p3 R' ho
  have hTr : ToR N1 ((qLaw c z n V A B T ln).2.getD R) := by
    cases ho : (qLaw c z n V A B T ln).2 with
    | none =>
      have b6 := hD.2.2.2.2.2
      unfold ToR at b6 ⊢
      rw [(q4 ho).1, (q4 ho).2]; exact b6
    | some R' => exact q5 R' ho
  refine ⟨_, _, _, _, _, e1, e2, b, rd', r, c, z, n, A, B, V, u, U, K, m, F, I, T, 0, (qLaw c z n V A B T ln).2.getD R, rfl, rfl, (RelC_lw (V' := V) hC p1 hTo).1, ?_, hU, hK⟩
  obtain ⟨h1, h2, h3, h4, h5, h6⟩ := hD
  refine ⟨WdR_frg h1 q1 (by decide) (by decide), UnR_fr h2 q1 (by decide) (by decide), KpR_t (KpR_fr h3 q1 (by decide) (by decide)), ?_, ⟨q2, by decide, by rw [q1.2 4 (by decide) (by decide)]; exact h5.2.2⟩, hTr⟩
  unfold PrR at h4 ⊢
  rw [q1.1 37 (by decide), q1.1 36 (by decide), q1.2 19 (by decide) (by decide)]; exact h4
