/-! goers: alike -/
theorem j_goers {t : Nat} (ht : t < 1000000) : Jn t 32 171 [] := by
  intro P Q M N hR d hd
  obtain ⟨b, rd, r, c, z, n, A, B, V, u, U, K, m, F, I, T, ln, R, rfl, rfl, hC, hD, hU, hK⟩ := hR
  have hXC : TxC M T ln := hC.2.2.2.2.1
  have hXR : TxR N T ln := hD.2.2.2.2.1
  have hG := hC.1.1
  have hz := GrC_z hG
  have hS := hC.1.2.1
  have hSO : SnO B z n A := ⟨hC.1.2.2.1, hC.1.2.2.2.2.2.2.2⟩
  have hn6 := hSO.1.1
  obtain ⟨x, P1, M1, e1, rfl, p1, p2⟩ := c_goers (b := b) (la := min ln 47) hXC hG hS hn6 rfl d (by omega)
  obtain ⟨x', Q1, N1, e2, rfl, q0, q1, q2⟩ := r_goers (rd := rd) (ru := 7) (A := A) (B := B) (la := min ln 47) hXR hD.1.1.1 hD.1.2.1 hD.1.1.2.2.1 rfl d (by omega)
  have no : ∀ v, Fr [7, 10, 12, 13, 14, 15] [6] N N1 → (∀ p, p < 164 ∨ 168 ≤ p → M1 p = uM M 1 1 0 p) → Ev d 32 [pR 1] (kz LC) (PC b) M (some v) (kz LC) (PC b) M1 → Ev d 171 [pR 1] (kz LR) (PR rd 7) N (some v) (kz LR) (PR 4 7) N1 → ∃ v P' M' Q' N', Ev d 32 [pR 1] (kz LC) (PC b) M (some v) (kz LC) P' M' ∧ Ev d 171 [pR 1] (kz LR) (PR rd 7) N (some v) (kz LR) Q' N' ∧ Rel (t + 1) P' Q' M' N' := by
    intro v hf hm w1 w2
    refine ⟨_, _, _, _, _, w1, w2, b, 4, r, c, z, n, A, B, V, u, U, K, m, F, I, T, 0, R, rfl, rfl, RelC_q (RelC_0 hC) (QC_n (b := b) (v := pI 0) (fun p hp => hm p (by unfold scr at hp; omega)) (hm 172 (by omega)) (hm 173 (by omega))), RelR_tx2 hD (TxR_0 hXR q0 (hf.2 4 (by decide) (by decide))) hf (by decide) (by decide), hU, hK⟩
  by_cases c0 : ln = 0
  · obtain ⟨rfl, rfl⟩ := p1 c0
    obtain ⟨rfl, q5⟩ := q1 c0
    exact no _ q5 (fun _ _ => rfl) e1 e2
  obtain ⟨p3, p4⟩ := p2 (by omega)
  obtain ⟨q3, q4⟩ := q2 (by omega)
  have hgv := gsP_v (T := T) (la := min ln 47) (ln := ln) (r := r) (c := c) hG.1 (6 - n) 0
  cases hg : gsP T (min ln 47) ln r c (6 - n) 0 with
  | inl w =>
    obtain ⟨rfl, m1⟩ := p3 w hg
    obtain ⟨rfl, f1⟩ := q3 w hg
    exact no _ f1 m1 e1 e2
  | inr l =>
    obtain ⟨rfl, s1, s2, s3⟩ := p4 l hg
    obtain ⟨rfl, f1, f2, f3, f4, f5, f6⟩ := q4 l hg
    obtain ⟨g1, g2, g3⟩ := hgv.2 l hg
    have hSO' : SnO (adL l n A B).2 z (n + l.length) (adL l n A B).1 := SnO_adL hz.2 l n A B hSO (by omega) g3
    generalize (adL l n A B).1 = A' at *
    generalize (adL l n A B).2 = B' at *
    have hqn := qr_n (b := b)
    have m1 : ∀ p, p ≠ 1 → p < 5 ∨ (13 ≤ p ∧ p ≠ 29 ∧ p ≠ 32 ∧ p < 164) ∨ 168 ≤ p → M1 p = M p := fun p h1 h2 => by rw [s3 p h2, uM_ne h1]
    have m2 : ∀ j, j ≠ 1 → M1 1 j = M 1 j := fun j hj => by rw [s3 1 (by omega), uM_at, if_pos rfl, if_neg hj]
    have m3 : M1 1 1 = 0 := by rw [s3 1 (by omega)]; simp [uM_at]
    obtain ⟨nx, ⟨w1, w2, w3, w4⟩, hus⟩ := hC.2.1
    obtain ⟨a1, a2, a3, a4, a5, a6, a7, a8⟩ := hC
    have hCC : RelC M1 b r c z (n + l.length) A' B' V u [] (fun _ => none) m F I T 0 R := by
      refine ⟨⟨GrC_cg hG (m1 3 (by omega) (by omega)) (m1 4 (by omega) (by omega)), s1, hSO'.1, RuV_same a1.2.2.2.1 (m1 _ (by omega) (by omega)) (m1 _ (by omega) (by omega)), by rw [m2 14 (by decide)]; exact a1.2.2.2.2.1, a1.2.2.2.2.2.1, a1.2.2.2.2.2.2.1, hSO'.2⟩, ⟨nx, ⟨by rw [s2.1]; exact w1, w2, s2.2.1, by decide⟩, fun k hk => absurd hk (Nat.not_lt_zero _)⟩, fun i hi => ⟨fun _ => ?_, fun A' e => (by cases e)⟩, ?_, TxC_0 hXC m3 (m1 2 (by decide) (by omega)), ToC_id a6 (m1 172 (by decide) (by omega)) (m1 173 (by decide) (by omega)), by rw [m1 0 (by decide) (by omega)]; exact a7, by rw [m1 174 (by decide) (by omega)]; exact a8⟩
      · have hi' : i = 0 ∨ i = 1 := by omega
        rcases hi' with rfl | rfl
        · exact s2.2.2.1
        · exact s2.2.2.2
      · unfold PrC at a4 ⊢
        rw [m2 17 (by decide), m2 15 (by decide), m2 16 (by decide)]; exact a4
    have hDD : RelR N1 (t + 1) r c z (n + l.length) A' B' V u [] (fun _ => none) m F I T 0 R := by
      obtain ⟨⟨v1, v2, v3, v4, v5, v6, v7⟩, b2, b3, b4, b5, b6⟩ := hD
      obtain ⟨d1, d2, d3, r1, r2, c1, c2, n6⟩ := v1.1
      refine ⟨⟨⟨⟨by rw [f1.1 1 (by decide)]; exact d1, by rw [f1.1 2 (by decide)]; exact d2, f2, r1, r2, c1, c2, by omega⟩, v1.2.1, f6, RuR_f v1.2.2.2 f1 (by decide) (by decide)⟩, f5, hSO'.1, by rw [f1.1 4 (by decide)]; exact v4, v5, v6, hSO'.2⟩, ⟨f3, by decide, fun k hk => absurd hk (Nat.not_lt_zero _)⟩, KpR_n b3 ht f4 f1 (by decide), ?_, TxR_0 hXR q0 (f1.2 4 (by decide) (by decide)), ?_⟩
      · unfold PrR at b4 ⊢
        rw [f1.1 37 (by decide), f1.1 36 (by decide), f1.2 19 (by decide) (by decide)]; exact b4
      · unfold ToR at b6 ⊢
        rw [f1.1 9 (by decide), f1.2 5 (by decide) (by decide)]; exact b6
    exact ⟨_, _, _, _, _, e1, e2, b, 4, r, c, z, n + l.length, A', B', V, u, [], fun _ => none, m, F, I, T, 0, R, rfl, rfl, hCC, hDD, VlU_0, VlK_0⟩
