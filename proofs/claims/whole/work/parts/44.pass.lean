/-! a night -/
theorem Cw_k {k y : Nat} {as : List PV} {L : List (Nat × Nat)} {P : PM} {M : MM} {Post : Option PV → PM → MM → Prop} (ls : PL) (hn : (ent as).length ≤ mxl y) (hl : entL y as = ls) (h : ∀ d, k ≤ d → ∀ (Q : QT) (X : XT), (∀ r P' M', Post r P' M' → Q r (kz L) P' M') → wpB (Ev d) y Q X 0 ls [] (kz L) P M) : Cw (k + 1) y as L P M Post := Cw_q ls hn hl (fun d hd => h d hd _ _ (fun _ _ _ h => ⟨rfl, h⟩))
theorem cnt_t {p : Nat → Bool} {n : Nat} (h : p n = true) : cnt p (n + 1) = cnt p n + 1 := by
  show cnt p n + (p n).toNat = _
  rw [h]; rfl
theorem cnt_f {p : Nat → Bool} {n : Nat} (h : p n = false) : cnt p (n + 1) = cnt p n := by
  show cnt p n + (p n).toNat = _
  rw [h]; rfl
noncomputable def wnS (c z n : Nat) (V : (Nat → Int) → Int) (A B : Nat → Int) (f : Nat) : Int := mn9 99 (w32 (A (36 + f) + cnt (fun g => onS c z V A B g f) n))
noncomputable def opS (c z n : Nat) (V : (Nat → Int) → Int) (A B : Nat → Int) (u : Int) (f : Nat) : Bool := decide ((A f = 1 ∨ A f = 2) ∧ u ≤ wnS c z n V A B f)
/-- the snapshot after a night -/
noncomputable def ntA (c z n : Nat) (V : (Nat → Int) → Int) (B : Nat → Int) (u : Int) (A : Nat → Int) : Nat → Int := fun j =>
  if j < 36 then (if j < z ∧ opS c z n V A B u j = true then 0 else A j)
  else if j < 72 then (if j - 36 < z then wnS c z n V A B (j - 36) else A j)
  else if j < 120 then A j
  else if j < 126 then (if j - 120 < n ∧ hpS c z V A B (j - 120) then mn9 999 (w32 (A j + 1)) else A j)
  else if j < 132 then (if j - 126 < n ∧ ¬ hpS c z V A B (j - 126) then mn9 999 (w32 (A j + 1)) else A j)
  else if j = 132 then w32 (A 132 + 1) else A j
section
variable {c z n : Nat} {V : (Nat → Int) → Int} {A B : Nat → Int} {u : Int}
theorem nt_k {f : Nat} (hf : f < z) (hz : z ≤ 36) : ntA c z n V B u A f = if opS c z n V A B u f = true then 0 else A f := by
  unfold ntA; rw [if_pos (by omega)]
  simp [hf]
theorem nt_w {f : Nat} (hf : f < z) (hz : z ≤ 36) : ntA c z n V B u A (36 + f) = wnS c z n V A B f := by
  unfold ntA; rw [if_neg (by omega), if_pos (by omega), if_pos (by omega), Nat.add_sub_cancel_left]
theorem nt_m {j : Nat} (h : 72 ≤ j) (h2 : j < 120) : ntA c z n V B u A j = A j := by
  unfold ntA; rw [if_neg (by omega), if_neg (by omega), if_pos h2]
theorem nt_c {g : Nat} (hg : g < n) (h6 : n ≤ 6) : ntA c z n V B u A (120 + g) = if hpS c z V A B g then mn9 999 (w32 (A (120 + g) + 1)) else A (120 + g) := by
  unfold ntA; rw [if_neg (by omega), if_neg (by omega), if_neg (by omega), if_pos (by omega), Nat.add_sub_cancel_left]
  by_cases h : hpS c z V A B g
  · rw [if_pos ⟨hg, h⟩, if_pos h]
  · rw [if_neg (fun w => h w.2), if_neg h]
theorem nt_x {g : Nat} (hg : g < n) (h6 : n ≤ 6) : ntA c z n V B u A (126 + g) = if hpS c z V A B g then A (126 + g) else mn9 999 (w32 (A (126 + g) + 1)) := by
  unfold ntA; rw [if_neg (by omega), if_neg (by omega), if_neg (by omega), if_neg (by omega), if_pos (by omega), Nat.add_sub_cancel_left]
  by_cases h : hpS c z V A B g
  · rw [if_neg (fun w => w.2 h), if_pos h]
  · rw [if_pos ⟨hg, h⟩, if_neg h]
theorem nt_n : ntA c z n V B u A 132 = w32 (A 132 + 1) := rfl
theorem w32_r (x : Int) : r32 (w32 x) := by unfold r32 w32; omega
theorem wnS_r {f : Nat} (h6 : n ≤ 6) (h : 0 ≤ A (36 + f) ∧ A (36 + f) ≤ 99) : 0 ≤ wnS c z n V A B f ∧ wnS c z n V A B f ≤ 99 := by
  have := cnt_le (fun g => onS c z V A B g f) n
  unfold wnS mn9
  rw [w32s (by omega)]
  split <;> omega
theorem SnV_nt (h : SnV A B z n) (hz : z ≤ 36) : SnV (ntA c z n V B u A) B z n := by
  obtain ⟨h6, h1, h2, h3⟩ := h
  refine ⟨h6, fun f hf => ?_, fun g hg => ?_, ?_⟩
  · obtain ⟨a1, a2, a3⟩ := h1 f hf
    rw [nt_k hf hz, nt_w hf hz, nt_m (by omega) (by omega)]
    refine ⟨?_, wnS_r h6 a2, a3⟩
    split <;> omega
  · obtain ⟨a1, a2, a3, a4, a5⟩ := h2 g hg
    rw [nt_m (by omega) (by omega), nt_m (by omega) (by omega), nt_c hg h6, nt_x hg h6]
    refine ⟨a1, a2, a3, ?_, ?_⟩
    · unfold mn9
      rw [w32s (by omega)]
      split
      · split <;> omega
      · exact a4
    · unfold mn9
      rw [w32s (by omega)]
      split
      · exact a5
      · split <;> omega
  · rw [nt_n]; exact w32_r _
theorem LkV_nt (h : LkV A z) (hz : z ≤ 36) : LkV (ntA c z n V B u A) z := by
  unfold LkV
  rw [cnt_cg (q := fun f => decide (A (72 + f) = 1)) (fun k hk => by rw [nt_m (by omega) (by omega)])]
  exact h
end
section
variable {M : MM} {b : Bool} {r c z n o q : Nat} {A B : Nat → Int} {V : (Nat → Int) → Int} {u : Int}
theorem c_pass (hq : ruQ q) (ho : stI o) (hG : GrC M r c z) (hS : SnC M o A B z n) (hV : SnV A B z n) (hR : RuV M q V) : Cw 4 56 [pR 145, pR o, pR q, pI u] LC (PC b) M (fun x P' M' => x = none ∧ P' = PC b ∧ SnC M' o (ntA c z n V B u A) B z n ∧ M' 145 5 = inc (cnt (fun g => decide (hpS c z V A B g)) n) (M 145 5) ∧ M' 145 6 = inc (cnt (fun g => !decide (hpS c z V A B g)) n) (M 145 6) ∧ M' 145 7 = inc (cnt (opS c z n V A B u) z) (M 145 7) ∧ ∀ p, p ≠ q + 2 → p ≠ 145 → (p < o ∨ o + 8 ≤ p) → (p < 150 ∨ 164 ≤ p) → M' p = M p) := by
  refine Cw_k [some (pR 145), some (pR o), some (pR q), some (pI u), none] (Nat.le_of_ble_eq_true rfl) rfl (fun d hd Q X hQ => ?_)
  have hn6 := hV.1
  have hz := GrC_z hG
  have hsz := GrC_s hG
  have hob := st_b ho
  have hq175 : 175 ≤ q := by rcases hq with rfl | rfl <;> decide
  have k3 : ∀ (N2 : MM) (x4 : Option PV), PaA N2 c z n V A B → N2 o 5 = (n : Int) → N2 3 2 = (z : Int) → (∀ N : MM, (∀ p, p ≠ 145 → p ≠ o + 1 → p ≠ o + 2 → N p = N2 p) → (∀ f, N (o + 1) f = if f < z ∧ (N2 (o + 1) f = 1 ∨ N2 (o + 1) f = 2) ∧ u ≤ mn9 99 (w32 (N2 (o + 2) f + cnt (fun g => onS c z V A B g f) n)) then 0 else N2 (o + 1) f) → (∀ f, N (o + 2) f = if f < z then mn9 99 (w32 (N2 (o + 2) f + cnt (fun g => onS c z V A B g f) n)) else N2 (o + 2) f) → N 145 5 = N2 145 5 → N 145 6 = N2 145 6 → N 145 7 = inc (cnt (fun f => decide ((N2 (o + 1) f = 1 ∨ N2 (o + 1) f = 2) ∧ u ≤ mn9 99 (w32 (N2 (o + 2) f + cnt (fun g => onS c z V A B g f) n)))) z) (N2 145 7) → Q none (kz LC) (PC b) (uM N o 4 (w32 (N o 4 + 1)))) → wpB (Ev d) 56 Q X 61 [some (pR 145), some (pR o), some (pR q), some (pI u), x4] [] (kz LC) (PC b) N2 := by
    intro N2 x4 hPa h5 h32 hfin
    simp only [s_56_0, s_56_1, s_56_5, s_56_6, s_56_9, s_56_12, s_56_13, s_56_16, s_56_17, s_56_18, s_56_20, s_56_21, s_56_24, s_56_26, s_56_30, s_56_33, s_56_36, s_56_37, s_56_41, s_56_42, s_56_45, s_56_48, s_56_49, s_56_50, s_56_55, s_56_58, s_56_61, s_56_62, s_56_66, s_56_67, s_56_70, s_56_73, s_56_76, s_56_77, s_56_78, s_56_80, s_56_84, s_56_87, s_56_90, s_56_91I, s_56_91, s_56_92, s_56_95, s_56_96, s_56_97, s_56_100, true_and, and_true, sc0, sc1, sc2, sc3, sc4, Option.toList, List.cons_append, List.nil_append, clr, ne_eq, not_false_eq_true, not_true_eq_false, false_and, and_false, true_or, or_true, or_false, false_or, forall_const, Nat.reduceEqDiff, List.length_nil, List.length_cons, Nat.zero_le, Nat.reduceAdd, Nat.reduceLeDiff, false_implies, true_implies, Int.reduceEq, Int.reduceNe, Int.reduceLT, Int.reduceLE, Int.reduceNeg, Int.reduceToNat, Int.toNat_natCast, Nat.reduceLT, and_self, Decidable.not_not, kC_0, kC_1, kC_2, kC_3, kC_4, kC_5, kC_6, kC_7, kC_8, kC_9, kC_10, kC_11, kC_12, kC_13, kC_14, kC_15, kC_16, kC_17, kC_18, kC_19, kC_20, kC_21, kC_22, kC_23, kC_24, kC_25, kC_26, kC_27, kC_28, kC_29, kC_30, kC_31, kC_32, kC_145, kC_146, kC_147, kC_148, kC_149, kC_150, kC_151, kC_164, kC_165, kC_166, kC_167, kC_168, kC_169, kC_170, kC_171, kC_172, kC_173, kC_174, kC_175, kC_176, kC_177, kC_178, kC_179, kC_180, kC_181, kC_182, kC_183, kC_184, pC_1_0, pC_1_2, pC_1_3, pC_1_4, pC_1_5, pC_1_6, pC_1_7, pC_1_8, pC_1_9, pC_1_10, pC_1_11, pC_3_5, pC_5_0, pC_5_1, pC_5_2, pC_5_6, pC_5_7, pC_5_8, pC_5_9, pC_5_10, pC_13_0, pC_13_1, pC_13_2, pC_13_6, pC_13_7, pC_13_8, pC_13_9, pC_13_10, pC_21_0, pC_21_1, pC_21_2, pC_21_6, pC_21_7, pC_21_8, pC_21_9, pC_21_10, pC_29_0, pC_29_1, pC_29_2, pC_145_0, pC_145_1, pC_145_2, pC_145_3, pC_145_4, pC_149_0, pC_149_1, pC_149_2, pC_164_1, pC_164_2, pC_164_3, pC_168_0, pC_168_3, pC_168_4, pC_168_5, pC_172_0, pC_175_0, pC_175_2, pC_175_3, pC_175_5, pC_180_0, pC_180_2, pC_180_3, pC_180_5]
    refine lup (α := MM) (I := fun i N => (∀ p, p ≠ 145 → p ≠ o + 1 → p ≠ o + 2 → N p = N2 p) ∧ (∀ f, N (o + 1) f = if f < i ∧ (N2 (o + 1) f = 1 ∨ N2 (o + 1) f = 2) ∧ u ≤ mn9 99 (w32 (N2 (o + 2) f + cnt (fun g => onS c z V A B g f) n)) then 0 else N2 (o + 1) f) ∧ (∀ f, N (o + 2) f = if f < i then mn9 99 (w32 (N2 (o + 2) f + cnt (fun g => onS c z V A B g f) n)) else N2 (o + 2) f) ∧ N 145 5 = N2 145 5 ∧ N 145 6 = N2 145 6 ∧ N 145 7 = inc (cnt (fun f => decide ((N2 (o + 1) f = 1 ∨ N2 (o + 1) f = 2) ∧ u ≤ mn9 99 (w32 (N2 (o + 2) f + cnt (fun g => onS c z V A B g f) n)))) i) (N2 145 7)) (G := fun i N => wpB (Ev d) 56 Q X 64 [some (pR 145), some (pR o), some (pR q), some (pI u), some (pI (i : Int))] [] (kz LC) (PC b) N) z (fun N hN => ?_) (fun i N hi hN ih => ?_) 0 N2 (Nat.zero_le _) ⟨fun _ _ _ _ => rfl, fun f => by simp, fun f => by simp, rfl, rfl, rfl⟩
    · obtain ⟨a1, a2, a3, a4, a5, a6⟩ := hN
      have e1 : N 3 2 = (z : Int) := by rw [a1 3 (by omega) (by omega) (by omega)]; exact h32
      rw [s_56_64]
      simp only [s_56_0, s_56_1, s_56_5, s_56_6, s_56_9, s_56_12, s_56_13, s_56_16, s_56_17, s_56_18, s_56_20, s_56_21, s_56_24, s_56_26, s_56_30, s_56_33, s_56_36, s_56_37, s_56_41, s_56_42, s_56_45, s_56_48, s_56_49, s_56_50, s_56_55, s_56_58, s_56_61, s_56_62, s_56_66, s_56_67, s_56_70, s_56_73, s_56_76, s_56_77, s_56_78, s_56_80, s_56_84, s_56_87, s_56_90, s_56_91I, s_56_91, s_56_92, s_56_95, s_56_96, s_56_97, s_56_100, true_and, and_true, sc0, sc1, sc2, sc3, sc4, Option.toList, List.cons_append, List.nil_append, clr, ne_eq, not_false_eq_true, not_true_eq_false, false_and, and_false, true_or, or_true, or_false, false_or, forall_const, Nat.reduceEqDiff, List.length_nil, List.length_cons, Nat.zero_le, Nat.reduceAdd, Nat.reduceLeDiff, false_implies, true_implies, Int.reduceEq, Int.reduceNe, Int.reduceLT, Int.reduceLE, Int.reduceNeg, Int.reduceToNat, Int.toNat_natCast, Nat.reduceLT, and_self, Decidable.not_not, kC_0, kC_1, kC_2, kC_3, kC_4, kC_5, kC_6, kC_7, kC_8, kC_9, kC_10, kC_11, kC_12, kC_13, kC_14, kC_15, kC_16, kC_17, kC_18, kC_19, kC_20, kC_21, kC_22, kC_23, kC_24, kC_25, kC_26, kC_27, kC_28, kC_29, kC_30, kC_31, kC_32, kC_145, kC_146, kC_147, kC_148, kC_149, kC_150, kC_151, kC_164, kC_165, kC_166, kC_167, kC_168, kC_169, kC_170, kC_171, kC_172, kC_173, kC_174, kC_175, kC_176, kC_177, kC_178, kC_179, kC_180, kC_181, kC_182, kC_183, kC_184, pC_1_0, pC_1_2, pC_1_3, pC_1_4, pC_1_5, pC_1_6, pC_1_7, pC_1_8, pC_1_9, pC_1_10, pC_1_11, pC_3_5, pC_5_0, pC_5_1, pC_5_2, pC_5_6, pC_5_7, pC_5_8, pC_5_9, pC_5_10, pC_13_0, pC_13_1, pC_13_2, pC_13_6, pC_13_7, pC_13_8, pC_13_9, pC_13_10, pC_21_0, pC_21_1, pC_21_2, pC_21_6, pC_21_7, pC_21_8, pC_21_9, pC_21_10, pC_29_0, pC_29_1, pC_29_2, pC_145_0, pC_145_1, pC_145_2, pC_145_3, pC_145_4, pC_149_0, pC_149_1, pC_149_2, pC_164_1, pC_164_2, pC_164_3, pC_168_0, pC_168_3, pC_168_4, pC_168_5, pC_172_0, pC_175_0, pC_175_2, pC_175_3, pC_175_5, pC_180_0, pC_180_2, pC_180_3, pC_180_5, st_k ho, st_k1 ho, st_k2 ho, st_k3 ho, st_k4 ho, st_k5 ho, st_k6 ho, st_k7 ho, st_p0 ho, st_p1 ho, st_p2 ho, st_p6 ho, st_p7 ho, st_p8 ho, st_p9 ho, st_p10 ho, e1, Int.le_refl]
      exact hfin N a1 a2 a3 a4 a5 a6
    · obtain ⟨a1, a2, a3, a4, a5, a6⟩ := hN
      have e1 : N 3 2 = (z : Int) := by rw [a1 3 (by omega) (by omega) (by omega)]; exact h32
      have e2 : N o 5 = (n : Int) := by rw [a1 o (by omega) (by omega) (by omega)]; exact h5
      have e0 : ¬ (z : Int) ≤ (i : Int) := by omega
      have en := EqW_i (w32n (show i < 1000000 by omega))
      have hPN : PaA N c z n V A B := PaA_same hPa hn6 (fun p h1 h2 => a1 p (by omega) (by omega) (by omega))
      have hw := c_wear (b := b) (u := u) ho e2 hn6 hz.2 hi hPN
      rw [s_56_64]
      simp only [s_56_0, s_56_1, s_56_5, s_56_6, s_56_9, s_56_12, s_56_13, s_56_16, s_56_17, s_56_18, s_56_20, s_56_21, s_56_24, s_56_26, s_56_30, s_56_33, s_56_36, s_56_37, s_56_41, s_56_42, s_56_45, s_56_48, s_56_49, s_56_50, s_56_55, s_56_58, s_56_61, s_56_62, s_56_66, s_56_67, s_56_70, s_56_73, s_56_76, s_56_77, s_56_78, s_56_80, s_56_84, s_56_87, s_56_90, s_56_91I, s_56_91, s_56_92, s_56_95, s_56_96, s_56_97, s_56_100, true_and, and_true, sc0, sc1, sc2, sc3, sc4, Option.toList, List.cons_append, List.nil_append, clr, ne_eq, not_false_eq_true, not_true_eq_false, false_and, and_false, true_or, or_true, or_false, false_or, forall_const, Nat.reduceEqDiff, List.length_nil, List.length_cons, Nat.zero_le, Nat.reduceAdd, Nat.reduceLeDiff, false_implies, true_implies, Int.reduceEq, Int.reduceNe, Int.reduceLT, Int.reduceLE, Int.reduceNeg, Int.reduceToNat, Int.toNat_natCast, Nat.reduceLT, and_self, Decidable.not_not, kC_0, kC_1, kC_2, kC_3, kC_4, kC_5, kC_6, kC_7, kC_8, kC_9, kC_10, kC_11, kC_12, kC_13, kC_14, kC_15, kC_16, kC_17, kC_18, kC_19, kC_20, kC_21, kC_22, kC_23, kC_24, kC_25, kC_26, kC_27, kC_28, kC_29, kC_30, kC_31, kC_32, kC_145, kC_146, kC_147, kC_148, kC_149, kC_150, kC_151, kC_164, kC_165, kC_166, kC_167, kC_168, kC_169, kC_170, kC_171, kC_172, kC_173, kC_174, kC_175, kC_176, kC_177, kC_178, kC_179, kC_180, kC_181, kC_182, kC_183, kC_184, pC_1_0, pC_1_2, pC_1_3, pC_1_4, pC_1_5, pC_1_6, pC_1_7, pC_1_8, pC_1_9, pC_1_10, pC_1_11, pC_3_5, pC_5_0, pC_5_1, pC_5_2, pC_5_6, pC_5_7, pC_5_8, pC_5_9, pC_5_10, pC_13_0, pC_13_1, pC_13_2, pC_13_6, pC_13_7, pC_13_8, pC_13_9, pC_13_10, pC_21_0, pC_21_1, pC_21_2, pC_21_6, pC_21_7, pC_21_8, pC_21_9, pC_21_10, pC_29_0, pC_29_1, pC_29_2, pC_145_0, pC_145_1, pC_145_2, pC_145_3, pC_145_4, pC_149_0, pC_149_1, pC_149_2, pC_164_1, pC_164_2, pC_164_3, pC_168_0, pC_168_3, pC_168_4, pC_168_5, pC_172_0, pC_175_0, pC_175_2, pC_175_3, pC_175_5, pC_180_0, pC_180_2, pC_180_3, pC_180_5, st_k ho, st_k1 ho, st_k2 ho, st_k3 ho, st_k4 ho, st_k5 ho, st_k6 ho, st_k7 ho, st_p0 ho, st_p1 ho, st_p2 ho, st_p6 ho, st_p7 ho, st_p8 ho, st_p9 ho, st_p10 ho, e1, e0]
      refine s_56_81 (Nat.le_of_ble_eq_true rfl) kC_145 (hw d (by omega)) ?_
      simp only [s_56_0, s_56_1, s_56_5, s_56_6, s_56_9, s_56_12, s_56_13, s_56_16, s_56_17, s_56_18, s_56_20, s_56_21, s_56_24, s_56_26, s_56_30, s_56_33, s_56_36, s_56_37, s_56_41, s_56_42, s_56_45, s_56_48, s_56_49, s_56_50, s_56_55, s_56_58, s_56_61, s_56_62, s_56_66, s_56_67, s_56_70, s_56_73, s_56_76, s_56_77, s_56_78, s_56_80, s_56_84, s_56_87, s_56_90, s_56_91I, s_56_91, s_56_92, s_56_95, s_56_96, s_56_97, s_56_100, true_and, and_true, sc0, sc1, sc2, sc3, sc4, Option.toList, List.cons_append, List.nil_append, clr, ne_eq, not_false_eq_true, not_true_eq_false, false_and, and_false, true_or, or_true, or_false, false_or, forall_const, Nat.reduceEqDiff, List.length_nil, List.length_cons, Nat.zero_le, Nat.reduceAdd, Nat.reduceLeDiff, false_implies, true_implies, Int.reduceEq, Int.reduceNe, Int.reduceLT, Int.reduceLE, Int.reduceNeg, Int.reduceToNat, Int.toNat_natCast, Nat.reduceLT, and_self, Decidable.not_not, kC_0, kC_1, kC_2, kC_3, kC_4, kC_5, kC_6, kC_7, kC_8, kC_9, kC_10, kC_11, kC_12, kC_13, kC_14, kC_15, kC_16, kC_17, kC_18, kC_19, kC_20, kC_21, kC_22, kC_23, kC_24, kC_25, kC_26, kC_27, kC_28, kC_29, kC_30, kC_31, kC_32, kC_145, kC_146, kC_147, kC_148, kC_149, kC_150, kC_151, kC_164, kC_165, kC_166, kC_167, kC_168, kC_169, kC_170, kC_171, kC_172, kC_173, kC_174, kC_175, kC_176, kC_177, kC_178, kC_179, kC_180, kC_181, kC_182, kC_183, kC_184, pC_1_0, pC_1_2, pC_1_3, pC_1_4, pC_1_5, pC_1_6, pC_1_7, pC_1_8, pC_1_9, pC_1_10, pC_1_11, pC_3_5, pC_5_0, pC_5_1, pC_5_2, pC_5_6, pC_5_7, pC_5_8, pC_5_9, pC_5_10, pC_13_0, pC_13_1, pC_13_2, pC_13_6, pC_13_7, pC_13_8, pC_13_9, pC_13_10, pC_21_0, pC_21_1, pC_21_2, pC_21_6, pC_21_7, pC_21_8, pC_21_9, pC_21_10, pC_29_0, pC_29_1, pC_29_2, pC_145_0, pC_145_1, pC_145_2, pC_145_3, pC_145_4, pC_149_0, pC_149_1, pC_149_2, pC_164_1, pC_164_2, pC_164_3, pC_168_0, pC_168_3, pC_168_4, pC_168_5, pC_172_0, pC_175_0, pC_175_2, pC_175_3, pC_175_5, pC_180_0, pC_180_2, pC_180_3, pC_180_5, (EqW_o en)]
      have ei1 : N (o + 1) i = N2 (o + 1) i := by rw [a2 i, if_neg (by omega)]
      have ei2 : N (o + 2) i = N2 (o + 2) i := by rw [a3 i, if_neg (by omega)]
      refine ih _ ?_
      unfold wrM
      rw [ei1, ei2]
      have n0 : ¬ o + 1 = o + 2 := by omega
      have n0' : ¬ o + 2 = o + 1 := by omega
      have n1 : ¬ o + 1 = 145 := by omega
      have n2 : ¬ o + 2 = 145 := by omega
      have n3 : ¬ 145 = o + 1 := by omega
      have n4 : ¬ 145 = o + 2 := by omega
      by_cases hc : (N2 (o + 1) i = 1 ∨ N2 (o + 1) i = 2) ∧ u ≤ mn9 99 (w32 (N2 (o + 2) i + cnt (fun g => onS c z V A B g i) n))
      · rw [if_pos hc]
        refine ⟨fun p p1 p2 p3 => ?_, fun f => ?_, fun f => ?_, ?_, ?_, ?_⟩
        · rw [uM_ne p1, uM_ne p2, uM_ne p3]; exact a1 p p1 p2 p3
        · rw [uM_ne n1, uM_at, if_pos rfl, uM_ne n0]
          by_cases e : f = i
          · subst e; rw [if_pos rfl, if_pos ⟨by omega, hc⟩]
          · rw [if_neg e, a2 f]
            simp only [show f < i + 1 ↔ f < i by omega]
        · rw [uM_ne n2, uM_ne n0', uM_at, if_pos rfl]
          by_cases e : f = i
          · subst e; rw [if_pos rfl, if_pos (by omega)]
          · rw [if_neg e, a3 f]
            simp only [show f < i + 1 ↔ f < i by omega]
        · rw [uM_at, if_pos rfl, if_neg (by decide), uM_ne n3, uM_ne n4]; exact a4
        · rw [uM_at, if_pos rfl, if_neg (by decide), uM_ne n3, uM_ne n4]; exact a5
        · rw [uM_at, if_pos rfl, if_pos rfl, a6]
          rw [cnt_t (decide_eq_true hc)]
          rfl
      · rw [if_neg hc]
        refine ⟨fun p p1 p2 p3 => ?_, fun f => ?_, fun f => ?_, ?_, ?_, ?_⟩
        · rw [uM_ne p3]; exact a1 p p1 p2 p3
        · rw [uM_ne n0]
          by_cases e : f = i
          · subst e; rw [if_neg (fun w => hc w.2), ei1]
          · rw [a2 f]
            simp only [show f < i + 1 ↔ f < i by omega]
        · rw [uM_at, if_pos rfl]
          by_cases e : f = i
          · subst e; rw [if_pos rfl, if_pos (by omega)]
          · rw [if_neg e, a3 f]
            simp only [show f < i + 1 ↔ f < i by omega]
        · rw [uM_ne n4]; exact a4
        · rw [uM_ne n4]; exact a5
        · rw [uM_ne n4, a6]
          rw [cnt_f (decide_eq_false hc)]
  have k2 : ∀ (N1 : MM) (x4 : Option PV), PaA N1 c z n V A B → (∀ p, p ≠ q + 2 → (p < 150 ∨ 164 ≤ p) → N1 p = M p) → wpB (Ev d) 56 Q X 36 [some (pR 145), some (pR o), some (pR q), some (pI u), x4] [] (kz LC) (PC b) N1 := by
    intro N1 x4 hPa hN1
    simp only [s_56_0, s_56_1, s_56_5, s_56_6, s_56_9, s_56_12, s_56_13, s_56_16, s_56_17, s_56_18, s_56_20, s_56_21, s_56_24, s_56_26, s_56_30, s_56_33, s_56_36, s_56_37, s_56_41, s_56_42, s_56_45, s_56_48, s_56_49, s_56_50, s_56_55, s_56_58, s_56_61, s_56_62, s_56_66, s_56_67, s_56_70, s_56_73, s_56_76, s_56_77, s_56_78, s_56_80, s_56_84, s_56_87, s_56_90, s_56_91I, s_56_91, s_56_92, s_56_95, s_56_96, s_56_97, s_56_100, true_and, and_true, sc0, sc1, sc2, sc3, sc4, Option.toList, List.cons_append, List.nil_append, clr, ne_eq, not_false_eq_true, not_true_eq_false, false_and, and_false, true_or, or_true, or_false, false_or, forall_const, Nat.reduceEqDiff, List.length_nil, List.length_cons, Nat.zero_le, Nat.reduceAdd, Nat.reduceLeDiff, false_implies, true_implies, Int.reduceEq, Int.reduceNe, Int.reduceLT, Int.reduceLE, Int.reduceNeg, Int.reduceToNat, Int.toNat_natCast, Nat.reduceLT, and_self, Decidable.not_not, kC_0, kC_1, kC_2, kC_3, kC_4, kC_5, kC_6, kC_7, kC_8, kC_9, kC_10, kC_11, kC_12, kC_13, kC_14, kC_15, kC_16, kC_17, kC_18, kC_19, kC_20, kC_21, kC_22, kC_23, kC_24, kC_25, kC_26, kC_27, kC_28, kC_29, kC_30, kC_31, kC_32, kC_145, kC_146, kC_147, kC_148, kC_149, kC_150, kC_151, kC_164, kC_165, kC_166, kC_167, kC_168, kC_169, kC_170, kC_171, kC_172, kC_173, kC_174, kC_175, kC_176, kC_177, kC_178, kC_179, kC_180, kC_181, kC_182, kC_183, kC_184, pC_1_0, pC_1_2, pC_1_3, pC_1_4, pC_1_5, pC_1_6, pC_1_7, pC_1_8, pC_1_9, pC_1_10, pC_1_11, pC_3_5, pC_5_0, pC_5_1, pC_5_2, pC_5_6, pC_5_7, pC_5_8, pC_5_9, pC_5_10, pC_13_0, pC_13_1, pC_13_2, pC_13_6, pC_13_7, pC_13_8, pC_13_9, pC_13_10, pC_21_0, pC_21_1, pC_21_2, pC_21_6, pC_21_7, pC_21_8, pC_21_9, pC_21_10, pC_29_0, pC_29_1, pC_29_2, pC_145_0, pC_145_1, pC_145_2, pC_145_3, pC_145_4, pC_149_0, pC_149_1, pC_149_2, pC_164_1, pC_164_2, pC_164_3, pC_168_0, pC_168_3, pC_168_4, pC_168_5, pC_172_0, pC_175_0, pC_175_2, pC_175_3, pC_175_5, pC_180_0, pC_180_2, pC_180_3, pC_180_5]
    have h15 : N1 o 5 = (n : Int) := by rw [hN1 o (by omega) (by omega)]; exact hS.2.2.2.1
    refine lup (α := MM) (I := fun i N => (∀ p, p ≠ 145 → p ≠ o + 6 → p ≠ o + 7 → N p = N1 p) ∧ (∀ g, N (o + 6) g = if g < i ∧ hpS c z V A B g then mn9 999 (w32 (N1 (o + 6) g + 1)) else N1 (o + 6) g) ∧ (∀ g, N (o + 7) g = if g < i ∧ ¬ hpS c z V A B g then mn9 999 (w32 (N1 (o + 7) g + 1)) else N1 (o + 7) g) ∧ N 145 5 = inc (cnt (fun g => decide (hpS c z V A B g)) i) (N1 145 5) ∧ N 145 6 = inc (cnt (fun g => !decide (hpS c z V A B g)) i) (N1 145 6) ∧ N 145 7 = N1 145 7) (G := fun i N => wpB (Ev d) 56 Q X 39 [some (pR 145), some (pR o), some (pR q), some (pI u), some (pI (i : Int))] [] (kz LC) (PC b) N) n (fun N hN => ?_) (fun i N hi hN ih => ?_) 0 N1 (Nat.zero_le _) ⟨fun _ _ _ _ => rfl, fun f => by simp, fun f => by simp, rfl, rfl, rfl⟩
    · obtain ⟨a1, a2, a3, a4, a5, a6⟩ := hN
      have e1 : N o 5 = (n : Int) := by rw [a1 o (by omega) (by omega) (by omega)]; exact h15
      rw [s_56_39]
      simp only [s_56_0, s_56_1, s_56_5, s_56_6, s_56_9, s_56_12, s_56_13, s_56_16, s_56_17, s_56_18, s_56_20, s_56_21, s_56_24, s_56_26, s_56_30, s_56_33, s_56_36, s_56_37, s_56_41, s_56_42, s_56_45, s_56_48, s_56_49, s_56_50, s_56_55, s_56_58, s_56_62, s_56_66, s_56_67, s_56_70, s_56_73, s_56_76, s_56_77, s_56_78, s_56_80, s_56_84, s_56_87, s_56_90, s_56_91I, s_56_91, s_56_92, s_56_95, s_56_96, s_56_97, s_56_100, true_and, and_true, sc0, sc1, sc2, sc3, sc4, Option.toList, List.cons_append, List.nil_append, clr, ne_eq, not_false_eq_true, not_true_eq_false, false_and, and_false, true_or, or_true, or_false, false_or, forall_const, Nat.reduceEqDiff, List.length_nil, List.length_cons, Nat.zero_le, Nat.reduceAdd, Nat.reduceLeDiff, false_implies, true_implies, Int.reduceEq, Int.reduceNe, Int.reduceLT, Int.reduceLE, Int.reduceNeg, Int.reduceToNat, Int.toNat_natCast, Nat.reduceLT, and_self, Decidable.not_not, kC_0, kC_1, kC_2, kC_3, kC_4, kC_5, kC_6, kC_7, kC_8, kC_9, kC_10, kC_11, kC_12, kC_13, kC_14, kC_15, kC_16, kC_17, kC_18, kC_19, kC_20, kC_21, kC_22, kC_23, kC_24, kC_25, kC_26, kC_27, kC_28, kC_29, kC_30, kC_31, kC_32, kC_145, kC_146, kC_147, kC_148, kC_149, kC_150, kC_151, kC_164, kC_165, kC_166, kC_167, kC_168, kC_169, kC_170, kC_171, kC_172, kC_173, kC_174, kC_175, kC_176, kC_177, kC_178, kC_179, kC_180, kC_181, kC_182, kC_183, kC_184, pC_1_0, pC_1_2, pC_1_3, pC_1_4, pC_1_5, pC_1_6, pC_1_7, pC_1_8, pC_1_9, pC_1_10, pC_1_11, pC_3_5, pC_5_0, pC_5_1, pC_5_2, pC_5_6, pC_5_7, pC_5_8, pC_5_9, pC_5_10, pC_13_0, pC_13_1, pC_13_2, pC_13_6, pC_13_7, pC_13_8, pC_13_9, pC_13_10, pC_21_0, pC_21_1, pC_21_2, pC_21_6, pC_21_7, pC_21_8, pC_21_9, pC_21_10, pC_29_0, pC_29_1, pC_29_2, pC_145_0, pC_145_1, pC_145_2, pC_145_3, pC_145_4, pC_149_0, pC_149_1, pC_149_2, pC_164_1, pC_164_2, pC_164_3, pC_168_0, pC_168_3, pC_168_4, pC_168_5, pC_172_0, pC_175_0, pC_175_2, pC_175_3, pC_175_5, pC_180_0, pC_180_2, pC_180_3, pC_180_5, st_k ho, st_k1 ho, st_k2 ho, st_k3 ho, st_k4 ho, st_k5 ho, st_k6 ho, st_k7 ho, st_p0 ho, st_p1 ho, st_p2 ho, st_p6 ho, st_p7 ho, st_p8 ho, st_p9 ho, st_p10 ho, e1, Int.le_refl]
      refine k3 N _ (PaA_same hPa hn6 (fun p h1 h2 => a1 p (by omega) (by omega) (by omega))) e1 (by rw [a1 3 (by omega) (by omega) (by omega), hN1 3 (by omega) (by omega)]; exact hsz) (fun N' b1 b2 b3 b4 b5 b6 => hQ _ _ _ ⟨rfl, rfl, ?_, ?_, ?_, ?_, fun p p1 p2 p3 p4 => ?_⟩)
      · have sk : ∀ f, f < z → N (o + 1) f = A f ∧ N (o + 2) f = A (36 + f) := fun f hf => by
          rw [a1 (o + 1) (by omega) (by omega) (by omega), a1 (o + 2) (by omega) (by omega) (by omega), hN1 (o + 1) (by omega) (by omega), hN1 (o + 2) (by omega) (by omega)]
          exact hS.1 f hf
        have sg := hS.2.2.2.2
        refine ⟨fun f hf => ⟨?_, ?_⟩, ?_, ?_, ?_, fun g hg => ⟨?_, ?_, ?_, ?_, ?_⟩⟩
        · rw [uM_ne (by omega), b2 f, nt_k hf hz.2, (sk f hf).1, (sk f hf).2]
          unfold opS wnS
          simp only [hf, true_and, decide_eq_true_eq]
        · rw [uM_ne (by omega), b3 f, nt_w hf hz.2, if_pos hf, (sk f hf).2]
          rfl
        · rw [uM_at, if_pos rfl, if_neg (by decide), b1 o (by omega) (by omega) (by omega), a1 o (by omega) (by omega) (by omega), hN1 o (by omega) (by omega), hS.2.1]
          congr 1
          exact bs_cg (fun f hf => by rw [nt_m (by omega) (by omega)])
        · rw [uM_at, if_pos rfl, if_pos rfl, b1 o (by omega) (by omega) (by omega), a1 o (by omega) (by omega) (by omega), hN1 o (by omega) (by omega), hS.2.2.1]
          rfl
        · rw [uM_at, if_pos rfl, if_neg (by decide), b1 o (by omega) (by omega) (by omega)]; exact e1
        · rw [uM_ne (by omega), b1 _ (by omega) (by omega) (by omega), a1 _ (by omega) (by omega) (by omega), hN1 _ (by omega) (by omega)]; exact (sg g hg).1
        · rw [uM_ne (by omega), b1 _ (by omega) (by omega) (by omega), a1 _ (by omega) (by omega) (by omega), hN1 _ (by omega) (by omega), nt_m (by omega) (by omega)]; exact (sg g hg).2.1
        · rw [uM_ne (by omega), b1 _ (by omega) (by omega) (by omega), a1 _ (by omega) (by omega) (by omega), hN1 _ (by omega) (by omega), nt_m (by omega) (by omega)]; exact (sg g hg).2.2.1
        · rw [uM_ne (by omega), b1 _ (by omega) (by omega) (by omega), a2 g, hN1 _ (by omega) (by omega), nt_c hg hn6, (sg g hg).2.2.2.1]
          simp only [hg, true_and]
        · rw [uM_ne (by omega), b1 _ (by omega) (by omega) (by omega), a3 g, hN1 _ (by omega) (by omega), nt_x hg hn6, (sg g hg).2.2.2.2]
          simp only [hg, true_and, ite_not]
      · rw [uM_ne (by omega), b4, a4, hN1 145 (by omega) (by omega)]
      · rw [uM_ne (by omega), b5, a5, hN1 145 (by omega) (by omega)]
      · rw [uM_ne (by omega), b6, a6, hN1 145 (by omega) (by omega)]
        congr 1
        refine cnt_cg (fun f hf => ?_)
        have sk := hS.1 f hf
        unfold opS wnS
        rw [a1 (o + 1) (by omega) (by omega) (by omega), a1 (o + 2) (by omega) (by omega) (by omega), hN1 (o + 1) (by omega) (by omega), hN1 (o + 2) (by omega) (by omega), sk.1, sk.2]
      · rw [uM_ne (by omega), b1 p p2 (by omega) (by omega), a1 p p2 (by omega) (by omega), hN1 p p1 p4]
    · obtain ⟨a1, a2, a3, a4, a5, a6⟩ := hN
      have e1 : N o 5 = (n : Int) := by rw [a1 o (by omega) (by omega) (by omega)]; exact h15
      have e0 : ¬ (n : Int) ≤ (i : Int) := by omega
      have en := EqW_i (w32n (show i < 1000000 by omega))
      have hPN : PaA N c z n V A B := PaA_same hPa hn6 (fun p h1 h2 => a1 p (by omega) (by omega) (by omega))
      have hw := c_tally (b := b) ho (show i < 6 by omega) (hPN i hi)
      rw [s_56_39]
      simp only [s_56_0, s_56_1, s_56_5, s_56_6, s_56_9, s_56_12, s_56_13, s_56_16, s_56_17, s_56_18, s_56_20, s_56_21, s_56_24, s_56_26, s_56_30, s_56_33, s_56_36, s_56_37, s_56_41, s_56_42, s_56_45, s_56_48, s_56_49, s_56_50, s_56_55, s_56_58, s_56_61, s_56_62, s_56_66, s_56_67, s_56_70, s_56_73, s_56_76, s_56_77, s_56_78, s_56_80, s_56_84, s_56_87, s_56_90, s_56_91I, s_56_91, s_56_92, s_56_95, s_56_96, s_56_97, s_56_100, true_and, and_true, sc0, sc1, sc2, sc3, sc4, Option.toList, List.cons_append, List.nil_append, clr, ne_eq, not_false_eq_true, not_true_eq_false, false_and, and_false, true_or, or_true, or_false, false_or, forall_const, Nat.reduceEqDiff, List.length_nil, List.length_cons, Nat.zero_le, Nat.reduceAdd, Nat.reduceLeDiff, false_implies, true_implies, Int.reduceEq, Int.reduceNe, Int.reduceLT, Int.reduceLE, Int.reduceNeg, Int.reduceToNat, Int.toNat_natCast, Nat.reduceLT, and_self, Decidable.not_not, kC_0, kC_1, kC_2, kC_3, kC_4, kC_5, kC_6, kC_7, kC_8, kC_9, kC_10, kC_11, kC_12, kC_13, kC_14, kC_15, kC_16, kC_17, kC_18, kC_19, kC_20, kC_21, kC_22, kC_23, kC_24, kC_25, kC_26, kC_27, kC_28, kC_29, kC_30, kC_31, kC_32, kC_145, kC_146, kC_147, kC_148, kC_149, kC_150, kC_151, kC_164, kC_165, kC_166, kC_167, kC_168, kC_169, kC_170, kC_171, kC_172, kC_173, kC_174, kC_175, kC_176, kC_177, kC_178, kC_179, kC_180, kC_181, kC_182, kC_183, kC_184, pC_1_0, pC_1_2, pC_1_3, pC_1_4, pC_1_5, pC_1_6, pC_1_7, pC_1_8, pC_1_9, pC_1_10, pC_1_11, pC_3_5, pC_5_0, pC_5_1, pC_5_2, pC_5_6, pC_5_7, pC_5_8, pC_5_9, pC_5_10, pC_13_0, pC_13_1, pC_13_2, pC_13_6, pC_13_7, pC_13_8, pC_13_9, pC_13_10, pC_21_0, pC_21_1, pC_21_2, pC_21_6, pC_21_7, pC_21_8, pC_21_9, pC_21_10, pC_29_0, pC_29_1, pC_29_2, pC_145_0, pC_145_1, pC_145_2, pC_145_3, pC_145_4, pC_149_0, pC_149_1, pC_149_2, pC_164_1, pC_164_2, pC_164_3, pC_168_0, pC_168_3, pC_168_4, pC_168_5, pC_172_0, pC_175_0, pC_175_2, pC_175_3, pC_175_5, pC_180_0, pC_180_2, pC_180_3, pC_180_5, st_k ho, st_k1 ho, st_k2 ho, st_k3 ho, st_k4 ho, st_k5 ho, st_k6 ho, st_k7 ho, st_p0 ho, st_p1 ho, st_p2 ho, st_p6 ho, st_p7 ho, st_p8 ho, st_p9 ho, st_p10 ho, e1, e0]
      refine s_56_52 (Nat.le_of_ble_eq_true rfl) kC_145 (hw d (by omega)) ?_
      simp only [s_56_0, s_56_1, s_56_5, s_56_6, s_56_9, s_56_12, s_56_13, s_56_16, s_56_17, s_56_18, s_56_20, s_56_21, s_56_24, s_56_26, s_56_30, s_56_33, s_56_36, s_56_37, s_56_41, s_56_42, s_56_45, s_56_48, s_56_49, s_56_50, s_56_55, s_56_58, s_56_61, s_56_62, s_56_66, s_56_67, s_56_70, s_56_73, s_56_76, s_56_77, s_56_78, s_56_80, s_56_84, s_56_87, s_56_90, s_56_91I, s_56_91, s_56_92, s_56_95, s_56_96, s_56_97, s_56_100, true_and, and_true, sc0, sc1, sc2, sc3, sc4, Option.toList, List.cons_append, List.nil_append, clr, ne_eq, not_false_eq_true, not_true_eq_false, false_and, and_false, true_or, or_true, or_false, false_or, forall_const, Nat.reduceEqDiff, List.length_nil, List.length_cons, Nat.zero_le, Nat.reduceAdd, Nat.reduceLeDiff, false_implies, true_implies, Int.reduceEq, Int.reduceNe, Int.reduceLT, Int.reduceLE, Int.reduceNeg, Int.reduceToNat, Int.toNat_natCast, Nat.reduceLT, and_self, Decidable.not_not, kC_0, kC_1, kC_2, kC_3, kC_4, kC_5, kC_6, kC_7, kC_8, kC_9, kC_10, kC_11, kC_12, kC_13, kC_14, kC_15, kC_16, kC_17, kC_18, kC_19, kC_20, kC_21, kC_22, kC_23, kC_24, kC_25, kC_26, kC_27, kC_28, kC_29, kC_30, kC_31, kC_32, kC_145, kC_146, kC_147, kC_148, kC_149, kC_150, kC_151, kC_164, kC_165, kC_166, kC_167, kC_168, kC_169, kC_170, kC_171, kC_172, kC_173, kC_174, kC_175, kC_176, kC_177, kC_178, kC_179, kC_180, kC_181, kC_182, kC_183, kC_184, pC_1_0, pC_1_2, pC_1_3, pC_1_4, pC_1_5, pC_1_6, pC_1_7, pC_1_8, pC_1_9, pC_1_10, pC_1_11, pC_3_5, pC_5_0, pC_5_1, pC_5_2, pC_5_6, pC_5_7, pC_5_8, pC_5_9, pC_5_10, pC_13_0, pC_13_1, pC_13_2, pC_13_6, pC_13_7, pC_13_8, pC_13_9, pC_13_10, pC_21_0, pC_21_1, pC_21_2, pC_21_6, pC_21_7, pC_21_8, pC_21_9, pC_21_10, pC_29_0, pC_29_1, pC_29_2, pC_145_0, pC_145_1, pC_145_2, pC_145_3, pC_145_4, pC_149_0, pC_149_1, pC_149_2, pC_164_1, pC_164_2, pC_164_3, pC_168_0, pC_168_3, pC_168_4, pC_168_5, pC_172_0, pC_175_0, pC_175_2, pC_175_3, pC_175_5, pC_180_0, pC_180_2, pC_180_3, pC_180_5, (EqW_o en)]
      have ei1 : N (o + 6) i = N1 (o + 6) i := by rw [a2 i, if_neg (by omega)]
      have ei2 : N (o + 7) i = N1 (o + 7) i := by rw [a3 i, if_neg (by omega)]
      refine ih _ ?_
      unfold tyM
      rw [ei1, ei2]
      have n0 : ¬ o + 6 = o + 7 := by omega
      have n0' : ¬ o + 7 = o + 6 := by omega
      have n1 : ¬ o + 6 = 145 := by omega
      have n2 : ¬ o + 7 = 145 := by omega
      have n3 : ¬ 145 = o + 6 := by omega
      have n4 : ¬ 145 = o + 7 := by omega
      by_cases hc : hpS c z V A B i
      · rw [if_pos hc]
        refine ⟨fun p p1 p2 p3 => ?_, fun f => ?_, fun f => ?_, ?_, ?_, ?_⟩
        · rw [uM_ne p2, uM_ne p1]; exact a1 p p1 p2 p3
        · rw [uM_at, if_pos rfl, uM_ne n1]
          by_cases e : f = i
          · subst e; rw [if_pos rfl, if_pos ⟨by omega, hc⟩]
          · rw [if_neg e, a2 f]
            simp only [show f < i + 1 ↔ f < i by omega]
        · rw [uM_ne n0', uM_ne n2, a3 f]
          by_cases e : f = i
          · subst e; rw [if_neg (by omega), if_neg (fun w => w.2 hc)]
          · simp only [show f < i + 1 ↔ f < i by omega]
        · rw [uM_ne n3, uM_at, if_pos rfl, if_pos rfl, a4]
          show _ = inc (cnt (fun g => decide (hpS c z V A B g)) i + (decide (hpS c z V A B i)).toNat) _
          rw [decide_eq_true hc]
          rfl
        · rw [uM_ne n3, uM_at, if_pos rfl, if_neg (by decide), a5]
          show _ = inc (cnt (fun g => !decide (hpS c z V A B g)) i + (!decide (hpS c z V A B i)).toNat) _
          rw [decide_eq_true hc]
          rfl
        · rw [uM_ne n3, uM_at, if_pos rfl, if_neg (by decide)]; exact a6
      · rw [if_neg hc]
        refine ⟨fun p p1 p2 p3 => ?_, fun f => ?_, fun f => ?_, ?_, ?_, ?_⟩
        · rw [uM_ne p3, uM_ne p1]; exact a1 p p1 p2 p3
        · rw [uM_ne n0, uM_ne n1, a2 f]
          by_cases e : f = i
          · subst e; rw [if_neg (by omega), if_neg (fun w => hc w.2)]
          · simp only [show f < i + 1 ↔ f < i by omega]
        · rw [uM_at, if_pos rfl, uM_ne n2]
          by_cases e : f = i
          · subst e; rw [if_pos rfl, if_pos ⟨by omega, hc⟩]
          · rw [if_neg e, a3 f]
            simp only [show f < i + 1 ↔ f < i by omega]
        · rw [uM_ne n4, uM_at, if_pos rfl, if_neg (by decide), a4]
          show _ = inc (cnt (fun g => decide (hpS c z V A B g)) i + (decide (hpS c z V A B i)).toNat) _
          rw [decide_eq_false hc]
          rfl
        · rw [uM_ne n4, uM_at, if_pos rfl, if_pos rfl, a5]
          show _ = inc (cnt (fun g => !decide (hpS c z V A B g)) i + (!decide (hpS c z V A B i)).toNat) _
          rw [decide_eq_false hc]
          rfl
        · rw [uM_ne n4, uM_at, if_pos rfl, if_neg (by decide)]; exact a6
  simp only [s_56_0, s_56_1, s_56_5, s_56_6, s_56_9, s_56_12, s_56_13, s_56_16, s_56_17, s_56_18, s_56_20, s_56_21, s_56_24, s_56_26, s_56_30, s_56_33, s_56_36, s_56_37, s_56_41, s_56_42, s_56_45, s_56_48, s_56_49, s_56_50, s_56_55, s_56_58, s_56_61, s_56_62, s_56_66, s_56_67, s_56_70, s_56_73, s_56_76, s_56_77, s_56_78, s_56_80, s_56_84, s_56_87, s_56_90, s_56_91I, s_56_91, s_56_92, s_56_95, s_56_96, s_56_97, s_56_100, true_and, and_true, sc0, sc1, sc2, sc3, sc4, Option.toList, List.cons_append, List.nil_append, clr, ne_eq, not_false_eq_true, not_true_eq_false, false_and, and_false, true_or, or_true, or_false, false_or, forall_const, Nat.reduceEqDiff, List.length_nil, List.length_cons, Nat.zero_le, Nat.reduceAdd, Nat.reduceLeDiff, false_implies, true_implies, Int.reduceEq, Int.reduceNe, Int.reduceLT, Int.reduceLE, Int.reduceNeg, Int.reduceToNat, Int.toNat_natCast, Nat.reduceLT, and_self, Decidable.not_not, kC_0, kC_1, kC_2, kC_3, kC_4, kC_5, kC_6, kC_7, kC_8, kC_9, kC_10, kC_11, kC_12, kC_13, kC_14, kC_15, kC_16, kC_17, kC_18, kC_19, kC_20, kC_21, kC_22, kC_23, kC_24, kC_25, kC_26, kC_27, kC_28, kC_29, kC_30, kC_31, kC_32, kC_145, kC_146, kC_147, kC_148, kC_149, kC_150, kC_151, kC_164, kC_165, kC_166, kC_167, kC_168, kC_169, kC_170, kC_171, kC_172, kC_173, kC_174, kC_175, kC_176, kC_177, kC_178, kC_179, kC_180, kC_181, kC_182, kC_183, kC_184, pC_1_0, pC_1_2, pC_1_3, pC_1_4, pC_1_5, pC_1_6, pC_1_7, pC_1_8, pC_1_9, pC_1_10, pC_1_11, pC_3_5, pC_5_0, pC_5_1, pC_5_2, pC_5_6, pC_5_7, pC_5_8, pC_5_9, pC_5_10, pC_13_0, pC_13_1, pC_13_2, pC_13_6, pC_13_7, pC_13_8, pC_13_9, pC_13_10, pC_21_0, pC_21_1, pC_21_2, pC_21_6, pC_21_7, pC_21_8, pC_21_9, pC_21_10, pC_29_0, pC_29_1, pC_29_2, pC_145_0, pC_145_1, pC_145_2, pC_145_3, pC_145_4, pC_149_0, pC_149_1, pC_149_2, pC_164_1, pC_164_2, pC_164_3, pC_168_0, pC_168_3, pC_168_4, pC_168_5, pC_172_0, pC_175_0, pC_175_2, pC_175_3, pC_175_5, pC_180_0, pC_180_2, pC_180_3, pC_180_5]
  refine lup (α := MM) (I := fun i N => (∀ p, p ≠ q + 2 → (p < 150 ∨ 164 ≤ p) → N p = M p) ∧ ∀ g, g < i → PaC N g c z (hF V A g) (B g).toNat (A (108 + g)).toNat) (G := fun i N => wpB (Ev d) 56 Q X 3 [some (pR 145), some (pR o), some (pR q), some (pI u), some (pI (i : Int))] [] (kz LC) (PC b) N) n (fun N hN => ?_) (fun i N hi hN ih => ?_) 0 M (Nat.zero_le _) ⟨fun _ _ _ => rfl, fun g hg => absurd hg (Nat.not_lt_zero _)⟩
  · have e1 : N o 5 = (n : Int) := by rw [hN.1 o (by omega) (by omega)]; exact hS.2.2.2.1
    rw [s_56_3]
    simp only [s_56_0, s_56_1, s_56_5, s_56_6, s_56_9, s_56_12, s_56_13, s_56_16, s_56_17, s_56_18, s_56_20, s_56_21, s_56_24, s_56_26, s_56_30, s_56_33, s_56_37, s_56_41, s_56_42, s_56_45, s_56_48, s_56_49, s_56_50, s_56_55, s_56_58, s_56_61, s_56_62, s_56_66, s_56_67, s_56_70, s_56_73, s_56_76, s_56_77, s_56_78, s_56_80, s_56_84, s_56_87, s_56_90, s_56_91I, s_56_91, s_56_92, s_56_95, s_56_96, s_56_97, s_56_100, true_and, and_true, sc0, sc1, sc2, sc3, sc4, Option.toList, List.cons_append, List.nil_append, clr, ne_eq, not_false_eq_true, not_true_eq_false, false_and, and_false, true_or, or_true, or_false, false_or, forall_const, Nat.reduceEqDiff, List.length_nil, List.length_cons, Nat.zero_le, Nat.reduceAdd, Nat.reduceLeDiff, false_implies, true_implies, Int.reduceEq, Int.reduceNe, Int.reduceLT, Int.reduceLE, Int.reduceNeg, Int.reduceToNat, Int.toNat_natCast, Nat.reduceLT, and_self, Decidable.not_not, kC_0, kC_1, kC_2, kC_3, kC_4, kC_5, kC_6, kC_7, kC_8, kC_9, kC_10, kC_11, kC_12, kC_13, kC_14, kC_15, kC_16, kC_17, kC_18, kC_19, kC_20, kC_21, kC_22, kC_23, kC_24, kC_25, kC_26, kC_27, kC_28, kC_29, kC_30, kC_31, kC_32, kC_145, kC_146, kC_147, kC_148, kC_149, kC_150, kC_151, kC_164, kC_165, kC_166, kC_167, kC_168, kC_169, kC_170, kC_171, kC_172, kC_173, kC_174, kC_175, kC_176, kC_177, kC_178, kC_179, kC_180, kC_181, kC_182, kC_183, kC_184, pC_1_0, pC_1_2, pC_1_3, pC_1_4, pC_1_5, pC_1_6, pC_1_7, pC_1_8, pC_1_9, pC_1_10, pC_1_11, pC_3_5, pC_5_0, pC_5_1, pC_5_2, pC_5_6, pC_5_7, pC_5_8, pC_5_9, pC_5_10, pC_13_0, pC_13_1, pC_13_2, pC_13_6, pC_13_7, pC_13_8, pC_13_9, pC_13_10, pC_21_0, pC_21_1, pC_21_2, pC_21_6, pC_21_7, pC_21_8, pC_21_9, pC_21_10, pC_29_0, pC_29_1, pC_29_2, pC_145_0, pC_145_1, pC_145_2, pC_145_3, pC_145_4, pC_149_0, pC_149_1, pC_149_2, pC_164_1, pC_164_2, pC_164_3, pC_168_0, pC_168_3, pC_168_4, pC_168_5, pC_172_0, pC_175_0, pC_175_2, pC_175_3, pC_175_5, pC_180_0, pC_180_2, pC_180_3, pC_180_5, st_k ho, st_k1 ho, st_k2 ho, st_k3 ho, st_k4 ho, st_k5 ho, st_k6 ho, st_k7 ho, st_p0 ho, st_p1 ho, st_p2 ho, st_p6 ho, st_p7 ho, st_p8 ho, st_p9 ho, st_p10 ho, e1, Int.le_refl]
    exact k2 N _ hN.2 hN.1
  · obtain ⟨a1, a2⟩ := hN
    have e1 : N o 5 = (n : Int) := by rw [a1 o (by omega) (by omega)]; exact hS.2.2.2.1
    have e0 : ¬ (n : Int) ≤ (i : Int) := by omega
    have en := EqW_i (w32n (show i < 1000000 by omega))
    have bi0 : (0 : Int) ≤ (i : Int) := by omega
    have bi1 : (i : Int) < ((6 : Nat) : Int) := by omega
    have ne0 : ¬ 152 + 2 * i = 0 := by omega
    have hGN : GrC N r c z := GrC_cg hG (a1 3 (by omega) (by omega)) (a1 4 (by omega) (by omega))
    have hSN : SnC N o A B z n := SnC_same hS (fun p h1 h2 => a1 p (by omega) (by omega))
    have hRN : RuV N q V := RuV_same hR (a1 q (by omega) (by omega)) (a1 (q + 1) (by omega) (by omega))
    obtain ⟨v, P2, N2, hE, rfl, rfl, w1, w2⟩ := c_seek (b := b) hq ho hi hGN hSN hV hRN d (by omega)
    rw [s_56_3]
    simp only [s_56_0, s_56_1, s_56_5, s_56_6, s_56_9, s_56_12, s_56_13, s_56_16, s_56_17, s_56_18, s_56_20, s_56_21, s_56_24, s_56_26, s_56_30, s_56_33, s_56_36, s_56_37, s_56_41, s_56_42, s_56_45, s_56_48, s_56_49, s_56_50, s_56_55, s_56_58, s_56_61, s_56_62, s_56_66, s_56_67, s_56_70, s_56_73, s_56_76, s_56_77, s_56_78, s_56_80, s_56_84, s_56_87, s_56_90, s_56_91I, s_56_91, s_56_92, s_56_95, s_56_96, s_56_97, s_56_100, true_and, and_true, sc0, sc1, sc2, sc3, sc4, Option.toList, List.cons_append, List.nil_append, clr, ne_eq, not_false_eq_true, not_true_eq_false, false_and, and_false, true_or, or_true, or_false, false_or, forall_const, Nat.reduceEqDiff, List.length_nil, List.length_cons, Nat.zero_le, Nat.reduceAdd, Nat.reduceLeDiff, false_implies, true_implies, Int.reduceEq, Int.reduceNe, Int.reduceLT, Int.reduceLE, Int.reduceNeg, Int.reduceToNat, Int.toNat_natCast, Nat.reduceLT, and_self, Decidable.not_not, kC_0, kC_1, kC_2, kC_3, kC_4, kC_5, kC_6, kC_7, kC_8, kC_9, kC_10, kC_11, kC_12, kC_13, kC_14, kC_15, kC_16, kC_17, kC_18, kC_19, kC_20, kC_21, kC_22, kC_23, kC_24, kC_25, kC_26, kC_27, kC_28, kC_29, kC_30, kC_31, kC_32, kC_145, kC_146, kC_147, kC_148, kC_149, kC_150, kC_151, kC_164, kC_165, kC_166, kC_167, kC_168, kC_169, kC_170, kC_171, kC_172, kC_173, kC_174, kC_175, kC_176, kC_177, kC_178, kC_179, kC_180, kC_181, kC_182, kC_183, kC_184, pC_1_0, pC_1_2, pC_1_3, pC_1_4, pC_1_5, pC_1_6, pC_1_7, pC_1_8, pC_1_9, pC_1_10, pC_1_11, pC_3_5, pC_5_0, pC_5_1, pC_5_2, pC_5_6, pC_5_7, pC_5_8, pC_5_9, pC_5_10, pC_13_0, pC_13_1, pC_13_2, pC_13_6, pC_13_7, pC_13_8, pC_13_9, pC_13_10, pC_21_0, pC_21_1, pC_21_2, pC_21_6, pC_21_7, pC_21_8, pC_21_9, pC_21_10, pC_29_0, pC_29_1, pC_29_2, pC_145_0, pC_145_1, pC_145_2, pC_145_3, pC_145_4, pC_149_0, pC_149_1, pC_149_2, pC_164_1, pC_164_2, pC_164_3, pC_168_0, pC_168_3, pC_168_4, pC_168_5, pC_172_0, pC_175_0, pC_175_2, pC_175_3, pC_175_5, pC_180_0, pC_180_2, pC_180_3, pC_180_5, st_k ho, st_k1 ho, st_k2 ho, st_k3 ho, st_k4 ho, st_k5 ho, st_k6 ho, st_k7 ho, st_p0 ho, st_p1 ho, st_p2 ho, st_p6 ho, st_p7 ho, st_p8 ho, st_p9 ho, st_p10 ho, e1, e0, bi0, bi1, pa_at (show i < 6 by omega), ne0]
    refine s_56_27 (Nat.le_of_ble_eq_true rfl) kC_149 hE ?_
    simp only [s_56_0, s_56_1, s_56_5, s_56_6, s_56_9, s_56_12, s_56_13, s_56_16, s_56_17, s_56_18, s_56_20, s_56_21, s_56_24, s_56_26, s_56_30, s_56_33, s_56_36, s_56_37, s_56_41, s_56_42, s_56_45, s_56_48, s_56_49, s_56_50, s_56_55, s_56_58, s_56_61, s_56_62, s_56_66, s_56_67, s_56_70, s_56_73, s_56_76, s_56_77, s_56_78, s_56_80, s_56_84, s_56_87, s_56_90, s_56_91I, s_56_91, s_56_92, s_56_95, s_56_96, s_56_97, s_56_100, true_and, and_true, sc0, sc1, sc2, sc3, sc4, Option.toList, List.cons_append, List.nil_append, clr, ne_eq, not_false_eq_true, not_true_eq_false, false_and, and_false, true_or, or_true, or_false, false_or, forall_const, Nat.reduceEqDiff, List.length_nil, List.length_cons, Nat.zero_le, Nat.reduceAdd, Nat.reduceLeDiff, false_implies, true_implies, Int.reduceEq, Int.reduceNe, Int.reduceLT, Int.reduceLE, Int.reduceNeg, Int.reduceToNat, Int.toNat_natCast, Nat.reduceLT, and_self, Decidable.not_not, kC_0, kC_1, kC_2, kC_3, kC_4, kC_5, kC_6, kC_7, kC_8, kC_9, kC_10, kC_11, kC_12, kC_13, kC_14, kC_15, kC_16, kC_17, kC_18, kC_19, kC_20, kC_21, kC_22, kC_23, kC_24, kC_25, kC_26, kC_27, kC_28, kC_29, kC_30, kC_31, kC_32, kC_145, kC_146, kC_147, kC_148, kC_149, kC_150, kC_151, kC_164, kC_165, kC_166, kC_167, kC_168, kC_169, kC_170, kC_171, kC_172, kC_173, kC_174, kC_175, kC_176, kC_177, kC_178, kC_179, kC_180, kC_181, kC_182, kC_183, kC_184, pC_1_0, pC_1_2, pC_1_3, pC_1_4, pC_1_5, pC_1_6, pC_1_7, pC_1_8, pC_1_9, pC_1_10, pC_1_11, pC_3_5, pC_5_0, pC_5_1, pC_5_2, pC_5_6, pC_5_7, pC_5_8, pC_5_9, pC_5_10, pC_13_0, pC_13_1, pC_13_2, pC_13_6, pC_13_7, pC_13_8, pC_13_9, pC_13_10, pC_21_0, pC_21_1, pC_21_2, pC_21_6, pC_21_7, pC_21_8, pC_21_9, pC_21_10, pC_29_0, pC_29_1, pC_29_2, pC_145_0, pC_145_1, pC_145_2, pC_145_3, pC_145_4, pC_149_0, pC_149_1, pC_149_2, pC_164_1, pC_164_2, pC_164_3, pC_168_0, pC_168_3, pC_168_4, pC_168_5, pC_172_0, pC_175_0, pC_175_2, pC_175_3, pC_175_5, pC_180_0, pC_180_2, pC_180_3, pC_180_5, (EqW_o en)]
    refine ih _ ⟨fun p h1 h2 => ?_, fun g hg => ?_⟩
    · rw [w1 p (by simp; omega)]; exact a1 p h1 h2
    · by_cases e : g = i
      · subst e; exact w2
      · exact PaC_same (a2 g (by omega)) (w1 _ (by simp; omega)) (w1 _ (by simp; omega))
end
