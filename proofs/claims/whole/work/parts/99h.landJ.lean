/-! land: alike -/
theorem pn0_f {F : Nat → Nat} {I : Nat → Bool} {tt : Bool} {f : Nat} : pnB F I 0 tt f = false := by unfold pnB; simp
theorem cnt_fz : ∀ n, cnt (fun _ => false) n = 0
  | 0 => rfl
  | n + 1 => by
    show cnt (fun _ => false) n + 0 = 0
    rw [cnt_fz n]
section
variable {M M' N N' : MM} {b : Bool} {t r c z n : Nat} {A A' B : Nat → Int} {V : GV} {u : Int} {U : List (Nat → Int)} {K : Nat → Option (Nat → Int)} {m : Nat} {F : Nat → Nat} {I : Nat → Bool} {T T' : Nat → Int} {ln ln' : Nat} {R : List Int}
theorem RelR_tx2 {S S' : List Nat} (h : RelR N t r c z n A B V u U K m F I T ln R) (hT : TxR N' T' ln') (hf : Fr S S' N N') (hS : ∀ k, k ∈ [1, 2, 3, 4, 9, 19, 27, 36, 37, 40] → k ∉ S) (hS' : ∀ k, k ∈ [2, 3, 5, 7, 13, 19, 21, 22, 23] → k ∉ S') : RelR N' (t + 1) r c z n A B V u U K m F I T' ln' R := by
  obtain ⟨h1, h2, h3, h4, h5, h6⟩ := h
  refine ⟨WdR_frg h1 hf ⟨hS 1 (by decide), hS 2 (by decide), hS 3 (by decide), hS 4 (by decide), hS 19 (by decide)⟩ ⟨hS' 2 (by decide), hS' 3 (by decide), hS' 7 (by decide)⟩, UnR_fr h2 hf (hS 27 (by decide)) (hS' 13 (by decide)), KpR_t (KpR_fr h3 hf (hS 40 (by decide)) ⟨hS' 21 (by decide), hS' 22 (by decide), hS' 23 (by decide)⟩), ?_, hT, ?_⟩
  · unfold PrR at h4 ⊢
    rw [hf.1 37 (hS 37 (by decide)), hf.1 36 (hS 36 (by decide)), hf.2 19 (by decide) (hS' 19 (by decide))]; exact h4
  · unfold ToR at h6 ⊢
    rw [hf.1 9 (hS 9 (by decide)), hf.2 5 (by decide) (hS' 5 (by decide))]; exact h6
theorem TxC_0 (h : TxC M T ln) (h1 : M' 1 1 = 0) (h2 : M' 2 = M 2) : TxC M' T 0 := ⟨h1, by decide, by rw [h2]; exact h.2.2⟩
theorem TxR_0 (h : TxR N T ln) (h1 : N' 1 7 = 0) (h2 : N' 4 = N 4) : TxR N' T 0 := ⟨h1, by decide, by rw [h2]; exact h.2.2⟩
theorem RelC_0 (h : RelC M b r c z n A B V u U K m F I T ln R) : RelC (uM M 1 1 0) b r c z n A B V u U K m F I T 0 R := RelC_tx h (TxC_0 h.2.2.2.2.1 (by simp [uM_at]) (uM_ne (by decide))) (fun j hj => by rw [uM_at, if_pos rfl, if_neg hj]) (fun p h1 _ => uM_ne h1)
theorem RuR_f {S S' : List Nat} (h : RuR N 7 V) (hf : Fr S S' N N') (h1 : 19 ∉ S) (h2 : 7 ∉ S') : RuR N' 7 V := by
  obtain ⟨s0, k, T0, s1, s2, s3, s4⟩ := h
  exact ⟨s0, k, T0, by rw [hf.1 19 h1]; exact s1, s2, by rw [hf.2 7 (by decide) h2]; exact s3, s4⟩
/-- what is told anew: nothing is kept, nothing can be undone -/
theorem KpR_n {S S' : List Nat} (h : KpR N K t) (ht : t < 1000000) (h4 : N' 1 40 = w32 (N 1 40 + 1)) (hf : Fr S S' N N') (h2 : 21 ∉ S' ∧ 22 ∉ S' ∧ 23 ∉ S') : KpR N' (fun _ => none) (t + 1) := by
  obtain ⟨⟨cm, a1, a2, a3⟩, a4⟩ := h
  have e : N' 1 40 = ((cm + 1 : Nat) : Int) := by rw [h4, a1]; exact w32n (by omega)
  refine ⟨⟨cm + 1, e, by omega, fun i hi => ?_⟩, fun i hi => ⟨⟨fun w => ?_, fun w => absurd rfl w⟩, fun A' w => (by cases w)⟩⟩
  · rw [hf.2 23 (by decide) h2.2.2]
    have := a3 i hi
    omega
  · have w2 := w.2
    rw [hf.2 23 (by decide) h2.2.2, e] at w2
    have := a3 i hi
    omega
theorem VlU_0 : VlU [] B z n := fun k hk => absurd hk (Nat.not_lt_zero _)
theorem VlK_0 : VlK (fun _ => none) B z n := fun i A' _ e => by cases e
theorem lnA_r {T : Nat → Int} (hk : ∀ f, f < z → 0 ≤ kF (T (2 + f))) (hz : z ≤ 36) : SnO B z 0 (lnA T z A) := by
  have h1 : ∀ f, f < z → lnA T z A f = kF (T (2 + f)) := fun f hf => by unfold lnA; rw [if_pos hf]
  have h2 : ∀ f, f < z → lnA T z A (36 + f) = 0 := fun f hf => by unfold lnA; rw [if_neg (by omega), if_pos (by omega)]
  have h3 : ∀ f, f < z → lnA T z A (72 + f) = 0 := fun f hf => by unfold lnA; rw [if_neg (by omega), if_pos (by omega)]
  have h4 : lnA T z A 132 = 0 := by unfold lnA; rw [if_neg (by omega), if_neg (by omega), if_pos rfl]
  refine ⟨⟨by decide, fun f hf => ?_, fun g hg => absurd hg (Nat.not_lt_zero _), by rw [h4]; unfold r32; decide⟩, ?_⟩
  · rw [h1 f hf, h2 f hf, h3 f hf]
    have := kF_b (T (2 + f))
    have := hk f hf
    omega
  · unfold LkV
    rw [cnt_cg (q := fun _ => false) (fun f hf => by rw [h3 f hf]; decide), cnt_fz]
    decide
end
theorem j_land {t : Nat} (ht : t < 1000000) : Jn t 25 161 [] := by
  intro P Q M N hR d hd
  obtain ⟨b, rd, r, c, z, n, A, B, V, u, U, K, m, F, I, T, ln, R, rfl, rfl, hC, hD, hU, hK⟩ := hR
  have hXC : TxC M T ln := hC.2.2.2.2.1
  have hXR : TxR N T ln := hD.2.2.2.2.1
  obtain ⟨x', Q1, N1, e2, rfl, q1, q2, q3, q4⟩ := r_land (rd := rd) (ru := 7) hXR rfl rfl rfl d (by omega)
  by_cases hf : 0 ≤ lnF T ln
  · obtain ⟨rfl, q5⟩ := q3 hf
    have e1 := c_land_no (b := b) hXC hf d (by omega)
    exact ⟨_, _, _, _, _, e1, e2, b, 4, r, c, z, n, A, B, V, u, U, K, m, F, I, T, 0, R, rfl, rfl, RelC_0 hC, RelR_tx2 hD (TxR_0 hXR q1 (q5.2 4 (by decide) (by decide))) q5 (by decide) (by decide), hU, hK⟩
  have hf' : lnF T ln < 0 := by omega
  obtain ⟨h0, h1, hg, hl⟩ := lnF_ok hf'
  obtain ⟨r1, r2, r3⟩ := okD_n h0
  obtain ⟨c1, c2, c3⟩ := okD_n h1
  obtain ⟨x, P1, M1, e1, rfl, rfl, p1, p2, p3, p4, p5, p6⟩ := c_land (b := b) hXC hf' rfl rfl rfl d (by omega)
  obtain ⟨rfl, q5, q6, q7, q8, q9, q10, q11, q12⟩ := q4 hf'
  generalize dgN T 0 = r' at *
  generalize dgN T 1 = c' at *
  have hz36 : r' * c' ≤ 36 := rc_le r2 c2
  generalize hz' : r' * c' = z' at *
  have hkk : ∀ f, f < z' → 0 ≤ kF (T (2 + f)) := fun f hf => by
    have := hg (2 + f) (by omega) (by omega)
    unfold bdF at this
    omega
  have hSO : SnO B z' 0 (lnA T z' A) := lnA_r hkk hz36
  have hqn := qr_n (b := b)
  obtain ⟨nx, ⟨w1, w2, w3, w4⟩, hus⟩ := hC.2.1
  obtain ⟨a1, a2, a3, a4, a5, a6, a7, a8⟩ := hC
  have hSn : SnC M1 5 (lnA T z' A) B z' 0 := by
    refine ⟨fun f hf => ?_, ?_, ?_, p3.2.2, fun g hg => absurd hg (Nat.not_lt_zero _)⟩
    · show M1 6 f = _ ∧ M1 7 f = _
      rw [(p2 f hf).1, (p2 f hf).2]
      unfold lnA
      rw [if_pos hf, if_neg (by omega), if_pos (by omega)]; exact ⟨rfl, rfl⟩
    · rw [p3.1, bs_z.mpr (fun f hf => ?_)]
      · rfl
      · unfold lnA; rw [if_neg (by omega), if_pos (by omega)]; decide
    · rw [p3.2.1]; unfold lnA; rw [if_neg (by omega), if_neg (by omega), if_pos rfl]
  have hCC : RelC M1 b r' c' z' 0 (lnA T z' A) B V u [] (fun _ => none) 0 F I T 0 R := by
    refine ⟨⟨p1, hSn, hSO.1, RuV_same a1.2.2.2.1 (p6 _ (by omega) (by omega) (by omega) (by omega) (by omega) (by omega) (by omega) (by omega)) (p6 _ (by omega) (by omega) (by omega) (by omega) (by omega) (by omega) (by omega) (by omega)), by rw [p5.2.2.2.2]; exact a1.2.2.2.2.1, a1.2.2.2.2.2.1, a1.2.2.2.2.2.2.1, hSO.2⟩, ⟨nx, ⟨by rw [p4.1]; exact w1, w2, p4.2.1, by decide⟩, fun k hk => absurd hk (Nat.not_lt_zero _)⟩, fun i hi => ⟨fun _ => ?_, fun A' e => (by cases e)⟩, ⟨p5.2.2.2.1, by decide, ?_, ?_, fun k hk => absurd hk (Nat.not_lt_zero _)⟩, TxC_0 hXC p5.1 (p6 2 (by decide) (by decide) (by decide) (by decide) (by decide) (by decide) (by decide) (by decide)), ToC_id a6 (p6 172 (by decide) (by decide) (by decide) (by decide) (by decide) (by decide) (by decide) (by decide)) (p6 173 (by decide) (by decide) (by decide) (by decide) (by decide) (by decide) (by decide) (by decide)), by rw [p6 0 (by decide) (by decide) (by decide) (by decide) (by decide) (by decide) (by decide) (by decide)]; exact a7, by rw [p6 174 (by decide) (by decide) (by decide) (by decide) (by decide) (by decide) (by decide) (by decide)]; exact a8⟩
    · have hi' : i = 0 ∨ i = 1 := by omega
      rcases hi' with rfl | rfl
      · exact p4.2.2.1
      · exact p4.2.2.2
    · rw [p5.2.1, bs_z.mpr (fun f hf => pn0_f)]; rfl
    · rw [p5.2.2.1, bs_z.mpr (fun f hf => pn0_f)]; rfl
  have hDD : RelR N1 (t + 1) r' c' z' 0 (lnA T z' A) B V u [] (fun _ => none) 0 F I T 0 R := by
    obtain ⟨⟨v1, v2, v3, v4, v5, v6, v7⟩, b2, b3, b4, b5, b6⟩ := hD
    refine ⟨⟨⟨⟨q6, q7, q8, r1, r2, c1, c2, by decide⟩, hz'.symm, fun g hg => absurd hg (Nat.not_lt_zero _), RuR_f v1.2.2.2 q5 (by decide) (by decide)⟩, fun j hj => ?_, hSO.1, by rw [q5.1 4 (by decide)]; exact v4, v5, v6, hSO.2⟩, ⟨q10, by decide, fun k hk => absurd hk (Nat.not_lt_zero _)⟩, KpR_n b3 ht q11 q5 (by decide), ⟨q9, by decide, fun k hk => absurd hk (Nat.not_lt_zero _), by rw [q5.1 36 (by decide)]; exact b4.2.2.2.1, fun k hk => absurd hk (Nat.not_lt_zero _)⟩, TxR_0 hXR q1 (q5.2 4 (by decide) (by decide)), ?_⟩
    · rw [q12 j]
      unfold lnA
      rw [v2 j hj]
    · unfold ToR at b6 ⊢
      rw [q5.1 9 (by decide), q5.2 5 (by decide) (by decide)]; exact b6
  exact ⟨_, _, _, _, _, e1, e2, b, 4, r', c', z', 0, lnA T z' A, B, V, u, [], fun _ => none, 0, F, I, T, 0, R, rfl, rfl, hCC, hDD, VlU_0, VlK_0⟩
