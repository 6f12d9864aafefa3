/-! constructors: the reference; both alike at first -/
def SG (a b : Nat) (P : PM) : Prop := ∀ o k, a ≤ o ∨ b ≤ k → P o k = 0
theorem SG_u {a b : Nat} {P : PM} {o k v : Nat} (h : SG a b P) (ho : o < a) (hk : k < b) : SG a b (uP P o k v) := fun o' k' w => by
  unfold uP
  split
  · rename_i e
    split
    · omega
    · exact h o k' (by omega)
  · exact h o' k' w
theorem fin_g {a b : Nat} {P P' : PM} (h : SG a b P) (h' : SG a b P') (he : ∀ o, o < a → ∀ k, k < b → P o k = P' o k) : P = P' := by
  funext o k
  by_cases w : a ≤ o ∨ b ≤ k
  · rw [h o k w, h' o k w]
  · exact he o (by omega) k (by omega)
theorem SG_PR : SG 2 44 (PR 0 7) := fun o k w => by
  unfold PR
  rw [if_neg (by omega), if_neg (by omega)]
  split
  · rename_i e
    rw [List.getD_eq_getElem?_getD, List.getElem?_eq_none (by have : PRl.length = 44 := rfl; omega)]; rfl
  · rfl
theorem c_new1 : Cn 1 (22, 3004) 156 [pR 1] [(9, 13), (0, 11)] P00 M00 LR (fun P' M' => P' = PR 0 7 ∧ M' = uM (uM (uM M00 1 1 1) 1 2 1) 1 4 20) := by
  refine Cn_k [some (pR 1)] (Nat.le_of_ble_eq_true rfl) rfl (fun d hd Q X hQ => ?_)
  have hV0 : Vz P00 M00 1 := fun o ho k => ⟨rfl, by unfold M00; rw [if_neg (by omega)]⟩
  have k1 : ∀ (b x y : Nat × Nat) (l : List (Nat × Nat)), kd (b, x :: y :: l) 1 = y := fun _ _ _ _ => rfl
  have z2 : zP P00 2 = P00 := Vz_Pj hV0 1
  have y2 : zM M00 2 = M00 := Vz_Mj hV0 1
  have n2 : ¬ (2 : Nat) = 1 := by decide
  have e2 : ¬ (2 : Nat) = 0 := by decide
  have z3 : zP P00 3 = P00 := Vz_Pj hV0 2
  have y3 : zM M00 3 = M00 := Vz_Mj hV0 2
  have n3 : ¬ (3 : Nat) = 1 := by decide
  have e3 : ¬ (3 : Nat) = 0 := by decide
  have z4 : zP P00 4 = P00 := Vz_Pj hV0 3
  have y4 : zM M00 4 = M00 := Vz_Mj hV0 3
  have n4 : ¬ (4 : Nat) = 1 := by decide
  have e4 : ¬ (4 : Nat) = 0 := by decide
  have z5 : zP P00 5 = P00 := Vz_Pj hV0 4
  have y5 : zM M00 5 = M00 := Vz_Mj hV0 4
  have n5 : ¬ (5 : Nat) = 1 := by decide
  have e5 : ¬ (5 : Nat) = 0 := by decide
  have z6 : zP P00 6 = P00 := Vz_Pj hV0 5
  have y6 : zM M00 6 = M00 := Vz_Mj hV0 5
  have n6 : ¬ (6 : Nat) = 1 := by decide
  have e6 : ¬ (6 : Nat) = 0 := by decide
  have z7 : zP P00 7 = P00 := Vz_Pj hV0 6
  have y7 : zM M00 7 = M00 := Vz_Mj hV0 6
  have n7 : ¬ (7 : Nat) = 1 := by decide
  have e7 : ¬ (7 : Nat) = 0 := by decide
  have z8 : zP P00 8 = P00 := Vz_Pj hV0 7
  have y8 : zM M00 8 = M00 := Vz_Mj hV0 7
  have n8 : ¬ (8 : Nat) = 1 := by decide
  have e8 : ¬ (8 : Nat) = 0 := by decide
  have z9 : zP P00 9 = P00 := Vz_Pj hV0 8
  have y9 : zM M00 9 = M00 := Vz_Mj hV0 8
  have n9 : ¬ (9 : Nat) = 1 := by decide
  have e9 : ¬ (9 : Nat) = 0 := by decide
  have z10 : zP P00 10 = P00 := Vz_Pj hV0 9
  have y10 : zM M00 10 = M00 := Vz_Mj hV0 9
  have n10 : ¬ (10 : Nat) = 1 := by decide
  have e10 : ¬ (10 : Nat) = 0 := by decide
  have z11 : zP P00 11 = P00 := Vz_Pj hV0 10
  have y11 : zM M00 11 = M00 := Vz_Mj hV0 10
  have n11 : ¬ (11 : Nat) = 1 := by decide
  have e11 : ¬ (11 : Nat) = 0 := by decide
  have z12 : zP P00 12 = P00 := Vz_Pj hV0 11
  have y12 : zM M00 12 = M00 := Vz_Mj hV0 11
  have n12 : ¬ (12 : Nat) = 1 := by decide
  have e12 : ¬ (12 : Nat) = 0 := by decide
  have z13 : zP P00 13 = P00 := Vz_Pj hV0 12
  have y13 : zM M00 13 = M00 := Vz_Mj hV0 12
  have n13 : ¬ (13 : Nat) = 1 := by decide
  have e13 : ¬ (13 : Nat) = 0 := by decide
  have z14 : zP P00 14 = P00 := Vz_Pj hV0 13
  have y14 : zM M00 14 = M00 := Vz_Mj hV0 13
  have n14 : ¬ (14 : Nat) = 1 := by decide
  have e14 : ¬ (14 : Nat) = 0 := by decide
  have z15 : zP P00 15 = P00 := Vz_Pj hV0 14
  have y15 : zM M00 15 = M00 := Vz_Mj hV0 14
  have n15 : ¬ (15 : Nat) = 1 := by decide
  have e15 : ¬ (15 : Nat) = 0 := by decide
  have z16 : zP P00 16 = P00 := Vz_Pj hV0 15
  have y16 : zM M00 16 = M00 := Vz_Mj hV0 15
  have n16 : ¬ (16 : Nat) = 1 := by decide
  have e16 : ¬ (16 : Nat) = 0 := by decide
  have z17 : zP P00 17 = P00 := Vz_Pj hV0 16
  have y17 : zM M00 17 = M00 := Vz_Mj hV0 16
  have n17 : ¬ (17 : Nat) = 1 := by decide
  have e17 : ¬ (17 : Nat) = 0 := by decide
  have z18 : zP P00 18 = P00 := Vz_Pj hV0 17
  have y18 : zM M00 18 = M00 := Vz_Mj hV0 17
  have n18 : ¬ (18 : Nat) = 1 := by decide
  have e18 : ¬ (18 : Nat) = 0 := by decide
  have z19 : zP P00 19 = P00 := Vz_Pj hV0 18
  have y19 : zM M00 19 = M00 := Vz_Mj hV0 18
  have n19 : ¬ (19 : Nat) = 1 := by decide
  have e19 : ¬ (19 : Nat) = 0 := by decide
  have z20 : zP P00 20 = P00 := Vz_Pj hV0 19
  have y20 : zM M00 20 = M00 := Vz_Mj hV0 19
  have n20 : ¬ (20 : Nat) = 1 := by decide
  have e20 : ¬ (20 : Nat) = 0 := by decide
  have z21 : zP P00 21 = P00 := Vz_Pj hV0 20
  have y21 : zM M00 21 = M00 := Vz_Mj hV0 20
  have n21 : ¬ (21 : Nat) = 1 := by decide
  have e21 : ¬ (21 : Nat) = 0 := by decide
  have z22 : zP P00 22 = P00 := Vz_Pj hV0 21
  have y22 : zM M00 22 = M00 := Vz_Mj hV0 21
  have n22 : ¬ (22 : Nat) = 1 := by decide
  have e22 : ¬ (22 : Nat) = 0 := by decide
  have z23 : zP P00 23 = P00 := Vz_Pj hV0 22
  have y23 : zM M00 23 = M00 := Vz_Mj hV0 22
  have n23 : ¬ (23 : Nat) = 1 := by decide
  have e23 : ¬ (23 : Nat) = 0 := by decide
  obtain ⟨PF, hPF⟩ : ∃ J, J = uP (uP (uP (uP (uP (uP (uP (uP (uP (uP (uP (uP (uP (uP (uP (uP (uP (uP (uP (uP (uP (uP (P00) 1 0 2) 1 5 3) 1 6 4) 1 8 5) 1 16 6) 1 17 7) 1 18 8) 1 21 9) 1 22 10) 1 23 11) 1 24 12) 1 26 13) 1 28 14) 1 29 15) 1 30 16) 1 33 17) 1 34 18) 1 35 19) 1 38 20) 1 41 21) 1 42 22) 1 43 23 := ⟨_, rfl⟩
  have hPE : PF = PR 0 7 := by
    rw [hPF]
    refine fin_g (SG_u (SG_u (SG_u (SG_u (SG_u (SG_u (SG_u (SG_u (SG_u (SG_u (SG_u (SG_u (SG_u (SG_u (SG_u (SG_u (SG_u (SG_u (SG_u (SG_u (SG_u (SG_u ((fun _ _ _ => rfl)) (by decide) (by decide)) (by decide) (by decide)) (by decide) (by decide)) (by decide) (by decide)) (by decide) (by decide)) (by decide) (by decide)) (by decide) (by decide)) (by decide) (by decide)) (by decide) (by decide)) (by decide) (by decide)) (by decide) (by decide)) (by decide) (by decide)) (by decide) (by decide)) (by decide) (by decide)) (by decide) (by decide)) (by decide) (by decide)) (by decide) (by decide)) (by decide) (by decide)) (by decide) (by decide)) (by decide) (by decide)) (by decide) (by decide)) (by decide) (by decide)) SG_PR ?_
    decide +kernel
  simp only [s_156_0, s_156_4, s_156_5, s_156_10, s_156_13, s_156_14, s_156_15, s_156_18, s_156_19, s_156_20, s_156_23, s_156_24, s_156_26, s_156_29, s_156_30, s_156_34, s_156_37, s_156_38, s_156_42, s_156_45, s_156_46, s_156_50, s_156_53, s_156_54, s_156_58, s_156_61, s_156_62, s_156_66, s_156_69, s_156_70, s_156_74, s_156_77, s_156_78, s_156_82, s_156_85, s_156_86, s_156_90, s_156_93, s_156_94, s_156_98, s_156_101, s_156_102, s_156_106, s_156_109, s_156_110, s_156_115, s_156_118, s_156_119, s_156_124, s_156_127, s_156_128, s_156_133, s_156_136, s_156_137, s_156_141, s_156_144, s_156_145, s_156_150, s_156_153, s_156_154, s_156_158, s_156_161, s_156_162, s_156_166, s_156_169, s_156_170, s_156_174, s_156_177, s_156_178, s_156_183, s_156_186, s_156_187, s_156_190, s_156_193, s_156_194, s_156_197, s_156_200, n_156_1, n_156_8, n_156_32, n_156_40, n_156_48, n_156_56, n_156_64, n_156_72, n_156_80, n_156_88, n_156_96, n_156_104, n_156_113, n_156_122, n_156_131, n_156_139, n_156_148, n_156_156, n_156_164, n_156_172, n_156_181, n_156_188, n_156_195, true_and, and_true, sc0, sc1, sc2, sc3, sc4, Option.toList, List.cons_append, List.nil_append, clr, ne_eq, not_false_eq_true, not_true_eq_false, false_and, and_false, true_or, or_true, or_false, false_or, forall_const, Nat.reduceEqDiff, List.length_nil, List.length_cons, Nat.zero_le, Nat.reduceAdd, Nat.reduceLeDiff, false_implies, true_implies, Int.reduceEq, Int.reduceNe, Int.reduceLT, Int.reduceLE, Int.reduceNeg, Int.reduceToNat, Int.toNat_natCast, Nat.reduceLT, and_self, Decidable.not_not, Nat.reduceSub, Nat.sub_self, List.length_append, List.append_assoc, k1, z2, y2, zP_u n2, zM_u n2, e2, z3, y3, zP_u n3, zM_u n3, e3, z4, y4, zP_u n4, zM_u n4, e4, z5, y5, zP_u n5, zM_u n5, e5, z6, y6, zP_u n6, zM_u n6, e6, z7, y7, zP_u n7, zM_u n7, e7, z8, y8, zP_u n8, zM_u n8, e8, z9, y9, zP_u n9, zM_u n9, e9, z10, y10, zP_u n10, zM_u n10, e10, z11, y11, zP_u n11, zM_u n11, e11, z12, y12, zP_u n12, zM_u n12, e12, z13, y13, zP_u n13, zM_u n13, e13, z14, y14, zP_u n14, zM_u n14, e14, z15, y15, zP_u n15, zM_u n15, e15, z16, y16, zP_u n16, zM_u n16, e16, z17, y17, zP_u n17, zM_u n17, e17, z18, y18, zP_u n18, zM_u n18, e18, z19, y19, zP_u n19, zM_u n19, e19, z20, y20, zP_u n20, zM_u n20, e20, z21, y21, zP_u n21, zM_u n21, e21, z22, y22, zP_u n22, zM_u n22, e22, z23, y23, zP_u n23, zM_u n23, e23]
  rw [← hPF]
  exact hQ _ _ ⟨hPE, rfl⟩
theorem Rel_0 {M' : MM} (h1 : same M' (uM (uM (uM (gM M00) 175 8 1) 180 8 1) 1 14 20) [175, 176, 178, 179]) (h2 : RuV M' 175 plainV) : Rel 0 (PC false) (PR 0 7) M' (uM (uM (uM M00 1 1 1) 1 2 1) 1 4 20) := by
  have hm : ∀ o, o ≠ 175 → o ≠ 176 → o ≠ 178 → o ≠ 179 → o ≠ 180 → o ≠ 1 → ∀ k, M' o k = gM M00 o k := fun o a1 a2 a3 a4 a5 a6 k => by
    rw [h1 o (by simp; omega), uM_ne a6, uM_ne a5, uM_ne a1]
  have hz : ∀ o, o ≠ 175 → o ≠ 176 → o ≠ 178 → o ≠ 179 → o ≠ 180 → o ≠ 1 → o ≠ 0 → o ≠ 3 → o ≠ 4 → ∀ k, M' o k = 0 := fun o a1 a2 a3 a4 a5 a6 a7 a8 a9 k => by
    rw [hm o a1 a2 a3 a4 a5 a6 k]
    unfold gM M00
    rw [if_neg a8, if_neg a9, if_neg a7]
  have h11 : ∀ k, k ≠ 14 → M' 1 k = 0 := fun k hk => by
    rw [h1 1 (by decide), uM_at, if_pos rfl, if_neg hk, uM_ne (by decide), uM_ne (by decide)]
    unfold gM M00
    rw [if_neg (by decide), if_neg (by decide), if_neg (by decide)]
  have h114 : M' 1 14 = 20 := by rw [h1 1 (by decide), uM_at, if_pos rfl, if_pos rfl]
  have h3 : ∀ k, M' 3 k = ([1, 1, 1] : List Int).getD k 0 := fun k => by
    rw [hm 3 (by decide) (by decide) (by decide) (by decide) (by decide) (by decide)]; unfold gM; rw [if_pos rfl]
  have h4 : ∀ k, M' 4 k = ([-1, -1, -1, -1] : List Int).getD k 0 := fun k => by
    rw [hm 4 (by decide) (by decide) (by decide) (by decide) (by decide) (by decide)]; unfold gM; rw [if_neg (by decide), if_pos rfl]
  have n1 : ∀ k, k ≠ 1 → k ≠ 2 → k ≠ 4 → uM (uM (uM M00 1 1 1) 1 2 1) 1 4 20 1 k = 0 := fun k a b c => by
    rw [uM_at, if_pos rfl, if_neg c, uM_at, if_pos rfl, if_neg b, uM_at, if_pos rfl, if_neg a]; rfl
  have nz : ∀ o, o ≠ 1 → o ≠ 0 → ∀ k, uM (uM (uM M00 1 1 1) 1 2 1) 1 4 20 o k = 0 := fun o a b k => by
    rw [uM_ne a, uM_ne a, uM_ne a]; unfold M00; rw [if_neg b]
  have hSV : SnV n0 n0 1 0 := ⟨by decide, fun f _ => ⟨by unfold n0; decide, by unfold n0; decide, Or.inl rfl⟩, fun g hg => absurd hg (Nat.not_lt_zero _), by unfold n0 r32; decide⟩
  have hLk : LkV n0 1 := by unfold LkV n0; decide
  refine ⟨false, 0, 1, 1, 1, 0, n0, n0, plainV, 20, [], fun _ => none, 0, fun _ => 0, fun _ => false, fun _ => 0, 0, [], rfl, rfl, ?_, ?_, fun k hk => absurd hk (Nat.not_lt_zero _), fun i A' hi e => (by cases e)⟩
  · refine ⟨⟨⟨rfl, by decide, by decide, by decide, by decide, by rw [h3]; rfl, by rw [h3]; rfl, by rw [h3]; rfl, fun f hf d hd => ?_, by rw [h3]; decide, by rw [h3]; decide⟩, ⟨fun f hf => ⟨hz 6 (by decide) (by decide) (by decide) (by decide) (by decide) (by decide) (by decide) (by decide) (by decide) f, hz 7 (by decide) (by decide) (by decide) (by decide) (by decide) (by decide) (by decide) (by decide) (by decide) f⟩, by rw [hz 5 (by decide) (by decide) (by decide) (by decide) (by decide) (by decide) (by decide) (by decide) (by decide)]; decide, hz 5 (by decide) (by decide) (by decide) (by decide) (by decide) (by decide) (by decide) (by decide) (by decide) 4, hz 5 (by decide) (by decide) (by decide) (by decide) (by decide) (by decide) (by decide) (by decide) (by decide) 5, fun g hg => absurd hg (Nat.not_lt_zero _)⟩, hSV, h2, h114, by decide, by decide, hLk⟩, ⟨0, ⟨hz 29 (by decide) (by decide) (by decide) (by decide) (by decide) (by decide) (by decide) (by decide) (by decide) 3, by decide, hz 29 (by decide) (by decide) (by decide) (by decide) (by decide) (by decide) (by decide) (by decide) (by decide) 4, by decide⟩, fun k hk => absurd hk (Nat.not_lt_zero _)⟩, fun i hi => ⟨fun _ => hz 32 (by decide) (by decide) (by decide) (by decide) (by decide) (by decide) (by decide) (by decide) (by decide) i, fun A' e => (by cases e)⟩, ⟨h11 17 (by decide), by decide, by rw [h11 15 (by decide)]; decide, by rw [h11 16 (by decide)]; decide, fun k hk => absurd hk (Nat.not_lt_zero _)⟩, ⟨h11 1 (by decide), by decide, fun j hj => ⟨hz 2 (by decide) (by decide) (by decide) (by decide) (by decide) (by decide) (by decide) (by decide) (by decide) j, by dsimp only; decide, by dsimp only; decide⟩⟩, ⟨hz 172 (by decide) (by decide) (by decide) (by decide) (by decide) (by decide) (by decide) (by decide) (by decide) 1, by decide, fun k hk => absurd hk (Nat.not_lt_zero _)⟩, fun j hj => ?_, hz 174 (by decide) (by decide) (by decide) (by decide) (by decide) (by decide) (by decide) (by decide) (by decide) 0⟩
    · have hf0 : f = 0 := by omega
      subst hf0
      rw [h4]
      have : d = 0 ∨ d = 1 ∨ d = 2 ∨ d = 3 := by omega
      rcases this with rfl | rfl | rfl | rfl <;> rfl
    · rw [hm 0 (by decide) (by decide) (by decide) (by decide) (by decide) (by decide)]; rfl
  · refine ⟨⟨⟨⟨rfl, rfl, n1 3 (by decide) (by decide) (by decide), by decide, by decide, by decide, by decide, by decide⟩, rfl, fun g hg => absurd hg (Nat.not_lt_zero _), ⟨Or.inl rfl, 0, fun _ => 0, n1 19 (by decide) (by decide) (by decide), by decide, fun j hj => absurd hj (Nat.not_lt_zero _), ?_⟩⟩, fun j hj => nz 2 (by decide) (by decide) j, hSV, rfl, by decide, by decide, hLk⟩, ⟨n1 27 (by decide) (by decide) (by decide), by decide, fun k hk => absurd hk (Nat.not_lt_zero _)⟩, ⟨⟨0, n1 40 (by decide) (by decide) (by decide), Nat.le_refl _, fun i hi => by rw [nz 23 (by decide) (by decide)]; decide⟩, fun i hi => ⟨⟨fun w => absurd (nz 22 (by decide) (by decide) i) w.1, fun w => absurd rfl w⟩, fun A' e => (by cases e)⟩⟩, ⟨n1 37 (by decide) (by decide) (by decide), by decide, fun k hk => absurd hk (Nat.not_lt_zero _), by rw [n1 36 (by decide) (by decide) (by decide)]; decide, fun k hk => absurd hk (Nat.not_lt_zero _)⟩, ⟨n1 7 (by decide) (by decide) (by decide), by decide, fun j hj => by rw [nz 4 (by decide) (by decide)]; dsimp only; decide⟩, ⟨n1 9 (by decide) (by decide) (by decide), by decide, fun k hk => absurd hk (Nat.not_lt_zero _)⟩⟩
    rfl
