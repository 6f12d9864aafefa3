/-! lock, build, grant, divert; sign -/
theorem uM_cg {N M : MM} {p o k : Nat} {v : Int} (h : N p = M p) : uM N o k v p = uM M o k v p := by
  funext j
  simp only [uM_at, h]
section
variable {M : MM} {b : Bool}
def tlR (M : MM) (f : Int) : Int := if ¬ (0 ≤ f ∧ f < M 3 2) then -1 else if lAnd (lUshr (M 5 3) f) 1 = 0 ∧ 8 ≤ lbc (M 5 3) then -2 else lbc (lXor (M 5 3) (lShl 1 f))
def tlM (M : MM) (f : Int) : MM := if ¬ (0 ≤ f ∧ f < M 3 2) then M else if lAnd (lUshr (M 5 3) f) 1 = 0 ∧ 8 ≤ lbc (M 5 3) then M else uM M 5 3 (lXor (M 5 3) (lShl 1 f))
def mkR (M : MM) (f kk : Int) : Int := if ¬ ((0 ≤ f ∧ f < M 3 2) ∧ 0 ≤ kk ∧ kk ≤ 3) then -1 else M 6 f.toNat
def mkM (M : MM) (f kk : Int) : MM := if ¬ ((0 ≤ f ∧ f < M 3 2) ∧ 0 ≤ kk ∧ kk ≤ 3) then M else uM (uM M 6 f.toNat kk) 7 f.toNat 0
def trR (M : MM) (g kk : Int) : Int := if ¬ ((0 ≤ g ∧ g < M 5 5) ∧ 1 ≤ kk ∧ kk ≤ 3) then -1 else bXor (M 10 g.toNat) (bShl 1 kk)
def trM (M : MM) (g kk : Int) : MM := if ¬ ((0 ≤ g ∧ g < M 5 5) ∧ 1 ≤ kk ∧ kk ≤ 3) then M else uM M 10 g.toNat (bXor (M 10 g.toNat) (bShl 1 kk))
def mgR (M : MM) (g f : Int) : Int := if ¬ ((0 ≤ g ∧ g < M 5 5) ∧ 0 ≤ f ∧ f < M 3 2) then -1 else if M 9 g.toNat = f then -2 else M 9 g.toNat
def mgM (M : MM) (g f : Int) : MM := if ¬ ((0 ≤ g ∧ g < M 5 5) ∧ 0 ≤ f ∧ f < M 3 2) then M else if M 9 g.toNat = f then M else uM M 9 g.toNat f
theorem c_lock {f : Int} {n sz : Nat} (hp : pastI M n sz) : Cw 4 72 [pR 1, pI f] LC (PC b) M (fun r' P' M' => P' = PC b ∧ r' = some (pI (tlR M f)) ∧ actI M (tlM M f) M' (tlR M f) n sz) := by
  refine Cw_r [some (pR 1), some (pI f)] (Nat.le_of_ble_eq_true rfl) rfl (fun d hd => ?_)
  obtain ⟨M1, M2, h1, h2, h3, h4, h5⟩ := act_core (b := b) hd hp (fun N => tlM N f) (fun N => tlR N f) (fun N p h => by
    unfold tlM
    split
    · rfl
    · split
      · rfl
      · exact uM_ne (by omega)) (fun N hN => by
    have e3 := hN 3 (by decide)
    have e5 := hN 5 (by decide)
    refine ⟨eqS_of (fun p q1 q2 => ?_), ?_⟩
    · unfold tlM
      rw [e3, e5]
      split
      · exact hN p (by omega)
      · split
        · exact hN p (by omega)
        · exact uM_cg (hN p (by omega))
    · unfold tlR
      rw [e3, e5])
  have e9 : tlR M1 f = tlR M f := h3
  refine ⟨some (pI (tlR M f)), PC b, M2, fun Q X hq => ?_, rfl, rfl, h4⟩
  simp only [s_72_0, s_72_1, s_72_4, s_72_5, s_72_11, s_72_12, s_72_13, s_72_16, s_72_23, true_and, and_true, sc0, sc1, sc2, sc3, sc4, Option.toList, List.cons_append, List.nil_append, clr, ne_eq, not_false_eq_true, not_true_eq_false, false_and, and_false, true_or, or_true, or_false, false_or, forall_const, Nat.reduceEqDiff, List.length_nil, List.length_cons, Nat.zero_le, Nat.reduceAdd, Nat.reduceLeDiff, false_implies, true_implies, Int.reduceEq, Int.reduceNe, Int.reduceLT, Int.reduceLE, Int.reduceNeg, Int.reduceToNat, Int.toNat_natCast, Nat.reduceLT, and_self, Decidable.not_not, kC_1, pC_1_5, pC_1_3]
  refine s_72_8 (Nat.le_of_ble_eq_true rfl) kC_21 h1 ?_
  simp only [s_72_0, s_72_1, s_72_4, s_72_5, s_72_11, s_72_12, s_72_13, s_72_16, s_72_23, true_and, and_true, sc0, sc1, sc2, sc3, sc4, Option.toList, List.cons_append, List.nil_append, clr, ne_eq, not_false_eq_true, not_true_eq_false, false_and, and_false, true_or, or_true, or_false, false_or, forall_const, Nat.reduceEqDiff, List.length_nil, List.length_cons, Nat.zero_le, Nat.reduceAdd, Nat.reduceLeDiff, false_implies, true_implies, Int.reduceEq, Int.reduceNe, Int.reduceLT, Int.reduceLE, Int.reduceNeg, Int.reduceToNat, Int.toNat_natCast, Nat.reduceLT, and_self, Decidable.not_not, kC_1, pC_1_3]
  refine s_72_17 (Nat.le_of_ble_eq_true rfl) kC_5 (c_turnLock now_st d (by omega)) ?_
  simp only [s_72_0, s_72_1, s_72_4, s_72_5, s_72_11, s_72_12, s_72_13, s_72_16, s_72_23, true_and, and_true, sc0, sc1, sc2, sc3, sc4, Option.toList, List.cons_append, List.nil_append, clr, ne_eq, not_false_eq_true, not_true_eq_false, false_and, and_false, true_or, or_true, or_false, false_or, forall_const, Nat.reduceEqDiff, List.length_nil, List.length_cons, Nat.zero_le, Nat.reduceAdd, Nat.reduceLeDiff, false_implies, true_implies, Int.reduceEq, Int.reduceNe, Int.reduceLT, Int.reduceLE, Int.reduceNeg, Int.reduceToNat, Int.toNat_natCast, Nat.reduceLT, and_self, Decidable.not_not]
  refine s_72_20 (Nat.le_of_ble_eq_true rfl) kC_1 h2 ?_
  simp only [s_72_0, s_72_1, s_72_4, s_72_5, s_72_11, s_72_12, s_72_13, s_72_16, s_72_23, true_and, and_true, sc0, sc1, sc2, sc3, sc4, Option.toList, List.cons_append, List.nil_append, clr, ne_eq, not_false_eq_true, not_true_eq_false, false_and, and_false, true_or, or_true, or_false, false_or, forall_const, Nat.reduceEqDiff, List.length_nil, List.length_cons, Nat.zero_le, Nat.reduceAdd, Nat.reduceLeDiff, false_implies, true_implies, Int.reduceEq, Int.reduceNe, Int.reduceLT, Int.reduceLE, Int.reduceNeg, Int.reduceToNat, Int.toNat_natCast, Nat.reduceLT, and_self, Decidable.not_not, e9]
  exact hq
theorem c_build {f kk : Int} {n sz m : Nat} (hp : pastI M n sz) (hm : gsz M m) : Cw 4 76 [pR 1, pI f, pI kk] LC (PC b) M (fun r' P' M' => P' = PC b ∧ r' = some (pI (mkR M f kk)) ∧ actI M (mkM M f kk) M' (mkR M f kk) n sz) := by
  refine Cw_r [some (pR 1), some (pI f), some (pI kk)] (Nat.le_of_ble_eq_true rfl) rfl (fun d hd => ?_)
  obtain ⟨M1, M2, h1, h2, h3, h4, h5⟩ := act_core (b := b) hd hp (fun N => mkM N f kk) (fun N => mkR N f kk) (fun N p h => by
    unfold mkM
    split
    · rfl
    · rw [uM_ne (by omega), uM_ne (by omega)]) (fun N hN => by
    have e3 := hN 3 (by decide)
    have e6 := hN 6 (by decide)
    refine ⟨eqS_of (fun p q1 q2 => ?_), ?_⟩
    · unfold mkM
      rw [e3]
      split
      · exact hN p (by omega)
      · exact uM_cg (uM_cg (hN p (by omega)))
    · unfold mkR
      rw [e3, e6])
  have e9 : mkR M1 f kk = mkR M f kk := h3
  have hm1 : gsz M1 m := by unfold gsz; rw [h5 3 (by decide)]; exact hm
  refine ⟨some (pI (mkR M f kk)), PC b, M2, fun Q X hq => ?_, rfl, rfl, h4⟩
  simp only [s_76_0, s_76_1, s_76_4, s_76_5, s_76_11, s_76_12, s_76_13, s_76_16, s_76_17, s_76_24, true_and, and_true, sc0, sc1, sc2, sc3, sc4, Option.toList, List.cons_append, List.nil_append, clr, ne_eq, not_false_eq_true, not_true_eq_false, false_and, and_false, true_or, or_true, or_false, false_or, forall_const, Nat.reduceEqDiff, List.length_nil, List.length_cons, Nat.zero_le, Nat.reduceAdd, Nat.reduceLeDiff, false_implies, true_implies, Int.reduceEq, Int.reduceNe, Int.reduceLT, Int.reduceLE, Int.reduceNeg, Int.reduceToNat, Int.toNat_natCast, Nat.reduceLT, and_self, Decidable.not_not, kC_1, pC_1_5, pC_1_3]
  refine s_76_8 (Nat.le_of_ble_eq_true rfl) kC_21 h1 ?_
  simp only [s_76_0, s_76_1, s_76_4, s_76_5, s_76_11, s_76_12, s_76_13, s_76_16, s_76_17, s_76_24, true_and, and_true, sc0, sc1, sc2, sc3, sc4, Option.toList, List.cons_append, List.nil_append, clr, ne_eq, not_false_eq_true, not_true_eq_false, false_and, and_false, true_or, or_true, or_false, false_or, forall_const, Nat.reduceEqDiff, List.length_nil, List.length_cons, Nat.zero_le, Nat.reduceAdd, Nat.reduceLeDiff, false_implies, true_implies, Int.reduceEq, Int.reduceNe, Int.reduceLT, Int.reduceLE, Int.reduceNeg, Int.reduceToNat, Int.toNat_natCast, Nat.reduceLT, and_self, Decidable.not_not, kC_1, pC_1_3]
  refine s_76_18 (Nat.le_of_ble_eq_true rfl) kC_5 (c_makeKind now_st hm1 d (by omega)) ?_
  simp only [s_76_0, s_76_1, s_76_4, s_76_5, s_76_11, s_76_12, s_76_13, s_76_16, s_76_17, s_76_24, true_and, and_true, sc0, sc1, sc2, sc3, sc4, Option.toList, List.cons_append, List.nil_append, clr, ne_eq, not_false_eq_true, not_true_eq_false, false_and, and_false, true_or, or_true, or_false, false_or, forall_const, Nat.reduceEqDiff, List.length_nil, List.length_cons, Nat.zero_le, Nat.reduceAdd, Nat.reduceLeDiff, false_implies, true_implies, Int.reduceEq, Int.reduceNe, Int.reduceLT, Int.reduceLE, Int.reduceNeg, Int.reduceToNat, Int.toNat_natCast, Nat.reduceLT, and_self, Decidable.not_not]
  refine s_76_21 (Nat.le_of_ble_eq_true rfl) kC_1 h2 ?_
  simp only [s_76_0, s_76_1, s_76_4, s_76_5, s_76_11, s_76_12, s_76_13, s_76_16, s_76_17, s_76_24, true_and, and_true, sc0, sc1, sc2, sc3, sc4, Option.toList, List.cons_append, List.nil_append, clr, ne_eq, not_false_eq_true, not_true_eq_false, false_and, and_false, true_or, or_true, or_false, false_or, forall_const, Nat.reduceEqDiff, List.length_nil, List.length_cons, Nat.zero_le, Nat.reduceAdd, Nat.reduceLeDiff, false_implies, true_implies, Int.reduceEq, Int.reduceNe, Int.reduceLT, Int.reduceLE, Int.reduceNeg, Int.reduceToNat, Int.toNat_natCast, Nat.reduceLT, and_self, Decidable.not_not, e9]
  exact hq
theorem c_grant {g kk : Int} {n sz m : Nat} (hp : pastI M n sz) (hm : M 5 5 = (m : Int)) (h6 : m ≤ 6) : Cw 4 78 [pR 1, pI g, pI kk] LC (PC b) M (fun r' P' M' => P' = PC b ∧ r' = some (pI (trR M g kk)) ∧ actI M (trM M g kk) M' (trR M g kk) n sz) := by
  refine Cw_r [some (pR 1), some (pI g), some (pI kk)] (Nat.le_of_ble_eq_true rfl) rfl (fun d hd => ?_)
  obtain ⟨M1, M2, h1, h2, h3, h4, h5⟩ := act_core (b := b) hd hp (fun N => trM N g kk) (fun N => trR N g kk) (fun N p h => by
    unfold trM
    split
    · rfl
    · rw [uM_ne (by omega)]) (fun N hN => by
    have e5 := hN 5 (by decide)
    have e10 := hN 10 (by decide)
    refine ⟨eqS_of (fun p q1 q2 => ?_), ?_⟩
    · unfold trM
      rw [e5, e10]
      split
      · exact hN p (by omega)
      · exact uM_cg (hN p (by omega))
    · unfold trR
      rw [e5, e10])
  have e9 : trR M1 g kk = trR M g kk := h3
  refine ⟨some (pI (trR M g kk)), PC b, M2, fun Q X hq => ?_, rfl, rfl, h4⟩
  simp only [s_78_0, s_78_1, s_78_4, s_78_5, s_78_11, s_78_12, s_78_13, s_78_16, s_78_17, s_78_24, true_and, and_true, sc0, sc1, sc2, sc3, sc4, Option.toList, List.cons_append, List.nil_append, clr, ne_eq, not_false_eq_true, not_true_eq_false, false_and, and_false, true_or, or_true, or_false, false_or, forall_const, Nat.reduceEqDiff, List.length_nil, List.length_cons, Nat.zero_le, Nat.reduceAdd, Nat.reduceLeDiff, false_implies, true_implies, Int.reduceEq, Int.reduceNe, Int.reduceLT, Int.reduceLE, Int.reduceNeg, Int.reduceToNat, Int.toNat_natCast, Nat.reduceLT, and_self, Decidable.not_not, kC_1, pC_1_5, pC_1_3]
  refine s_78_8 (Nat.le_of_ble_eq_true rfl) kC_21 h1 ?_
  simp only [s_78_0, s_78_1, s_78_4, s_78_5, s_78_11, s_78_12, s_78_13, s_78_16, s_78_17, s_78_24, true_and, and_true, sc0, sc1, sc2, sc3, sc4, Option.toList, List.cons_append, List.nil_append, clr, ne_eq, not_false_eq_true, not_true_eq_false, false_and, and_false, true_or, or_true, or_false, false_or, forall_const, Nat.reduceEqDiff, List.length_nil, List.length_cons, Nat.zero_le, Nat.reduceAdd, Nat.reduceLeDiff, false_implies, true_implies, Int.reduceEq, Int.reduceNe, Int.reduceLT, Int.reduceLE, Int.reduceNeg, Int.reduceToNat, Int.toNat_natCast, Nat.reduceLT, and_self, Decidable.not_not, kC_1, pC_1_3]
  refine s_78_18 (Nat.le_of_ble_eq_true rfl) kC_5 (c_turnRight now_st (by rw [h5 5 (by decide)]; exact hm) h6 d (by omega)) ?_
  simp only [s_78_0, s_78_1, s_78_4, s_78_5, s_78_11, s_78_12, s_78_13, s_78_16, s_78_17, s_78_24, true_and, and_true, sc0, sc1, sc2, sc3, sc4, Option.toList, List.cons_append, List.nil_append, clr, ne_eq, not_false_eq_true, not_true_eq_false, false_and, and_false, true_or, or_true, or_false, false_or, forall_const, Nat.reduceEqDiff, List.length_nil, List.length_cons, Nat.zero_le, Nat.reduceAdd, Nat.reduceLeDiff, false_implies, true_implies, Int.reduceEq, Int.reduceNe, Int.reduceLT, Int.reduceLE, Int.reduceNeg, Int.reduceToNat, Int.toNat_natCast, Nat.reduceLT, and_self, Decidable.not_not]
  refine s_78_21 (Nat.le_of_ble_eq_true rfl) kC_1 h2 ?_
  simp only [s_78_0, s_78_1, s_78_4, s_78_5, s_78_11, s_78_12, s_78_13, s_78_16, s_78_17, s_78_24, true_and, and_true, sc0, sc1, sc2, sc3, sc4, Option.toList, List.cons_append, List.nil_append, clr, ne_eq, not_false_eq_true, not_true_eq_false, false_and, and_false, true_or, or_true, or_false, false_or, forall_const, Nat.reduceEqDiff, List.length_nil, List.length_cons, Nat.zero_le, Nat.reduceAdd, Nat.reduceLeDiff, false_implies, true_implies, Int.reduceEq, Int.reduceNe, Int.reduceLT, Int.reduceLE, Int.reduceNeg, Int.reduceToNat, Int.toNat_natCast, Nat.reduceLT, and_self, Decidable.not_not, e9]
  exact hq
theorem c_divert {g f : Int} {n sz m : Nat} (hp : pastI M n sz) (hm : M 5 5 = (m : Int)) (h6 : m ≤ 6) : Cw 4 80 [pR 1, pI g, pI f] LC (PC b) M (fun r' P' M' => P' = PC b ∧ r' = some (pI (mgR M g f)) ∧ actI M (mgM M g f) M' (mgR M g f) n sz) := by
  refine Cw_r [some (pR 1), some (pI g), some (pI f)] (Nat.le_of_ble_eq_true rfl) rfl (fun d hd => ?_)
  obtain ⟨M1, M2, h1, h2, h3, h4, h5⟩ := act_core (b := b) hd hp (fun N => mgM N g f) (fun N => mgR N g f) (fun N p h => by
    unfold mgM
    split
    · rfl
    · split
      · rfl
      · rw [uM_ne (by omega)]) (fun N hN => by
    have e3 := hN 3 (by decide)
    have e5 := hN 5 (by decide)
    have e9 := hN 9 (by decide)
    refine ⟨eqS_of (fun p q1 q2 => ?_), ?_⟩
    · unfold mgM
      rw [e3, e5, e9]
      split
      · exact hN p (by omega)
      · split
        · exact hN p (by omega)
        · exact uM_cg (hN p (by omega))
    · unfold mgR
      rw [e3, e5, e9])
  have e9 : mgR M1 g f = mgR M g f := h3
  refine ⟨some (pI (mgR M g f)), PC b, M2, fun Q X hq => ?_, rfl, rfl, h4⟩
  simp only [s_80_0, s_80_1, s_80_4, s_80_5, s_80_11, s_80_12, s_80_13, s_80_16, s_80_17, s_80_24, true_and, and_true, sc0, sc1, sc2, sc3, sc4, Option.toList, List.cons_append, List.nil_append, clr, ne_eq, not_false_eq_true, not_true_eq_false, false_and, and_false, true_or, or_true, or_false, false_or, forall_const, Nat.reduceEqDiff, List.length_nil, List.length_cons, Nat.zero_le, Nat.reduceAdd, Nat.reduceLeDiff, false_implies, true_implies, Int.reduceEq, Int.reduceNe, Int.reduceLT, Int.reduceLE, Int.reduceNeg, Int.reduceToNat, Int.toNat_natCast, Nat.reduceLT, and_self, Decidable.not_not, kC_1, pC_1_5, pC_1_3]
  refine s_80_8 (Nat.le_of_ble_eq_true rfl) kC_21 h1 ?_
  simp only [s_80_0, s_80_1, s_80_4, s_80_5, s_80_11, s_80_12, s_80_13, s_80_16, s_80_17, s_80_24, true_and, and_true, sc0, sc1, sc2, sc3, sc4, Option.toList, List.cons_append, List.nil_append, clr, ne_eq, not_false_eq_true, not_true_eq_false, false_and, and_false, true_or, or_true, or_false, false_or, forall_const, Nat.reduceEqDiff, List.length_nil, List.length_cons, Nat.zero_le, Nat.reduceAdd, Nat.reduceLeDiff, false_implies, true_implies, Int.reduceEq, Int.reduceNe, Int.reduceLT, Int.reduceLE, Int.reduceNeg, Int.reduceToNat, Int.toNat_natCast, Nat.reduceLT, and_self, Decidable.not_not, kC_1, pC_1_3]
  refine s_80_18 (Nat.le_of_ble_eq_true rfl) kC_5 (c_moveGoal now_st (by rw [h5 5 (by decide)]; exact hm) h6 d (by omega)) ?_
  simp only [s_80_0, s_80_1, s_80_4, s_80_5, s_80_11, s_80_12, s_80_13, s_80_16, s_80_17, s_80_24, true_and, and_true, sc0, sc1, sc2, sc3, sc4, Option.toList, List.cons_append, List.nil_append, clr, ne_eq, not_false_eq_true, not_true_eq_false, false_and, and_false, true_or, or_true, or_false, false_or, forall_const, Nat.reduceEqDiff, List.length_nil, List.length_cons, Nat.zero_le, Nat.reduceAdd, Nat.reduceLeDiff, false_implies, true_implies, Int.reduceEq, Int.reduceNe, Int.reduceLT, Int.reduceLE, Int.reduceNeg, Int.reduceToNat, Int.toNat_natCast, Nat.reduceLT, and_self, Decidable.not_not]
  refine s_80_21 (Nat.le_of_ble_eq_true rfl) kC_1 h2 ?_
  simp only [s_80_0, s_80_1, s_80_4, s_80_5, s_80_11, s_80_12, s_80_13, s_80_16, s_80_17, s_80_24, true_and, and_true, sc0, sc1, sc2, sc3, sc4, Option.toList, List.cons_append, List.nil_append, clr, ne_eq, not_false_eq_true, not_true_eq_false, false_and, and_false, true_or, or_true, or_false, false_or, forall_const, Nat.reduceEqDiff, List.length_nil, List.length_cons, Nat.zero_le, Nat.reduceAdd, Nat.reduceLeDiff, false_implies, true_implies, Int.reduceEq, Int.reduceNe, Int.reduceLT, Int.reduceLE, Int.reduceNeg, Int.reduceToNat, Int.toNat_natCast, Nat.reduceLT, and_self, Decidable.not_not, e9]
  exact hq
/-- one sign of v: the byte that begins at bit s -/
def byt (v s : Int) : Int := bAnd (bUshr v s) 255
theorem bAnd255 (x : Int) : 0 ≤ bAnd x 255 ∧ bAnd x 255 < 256 := by
  unfold bAnd
  have h := pk_and (Int32.ofInt x) (m := 255) 8 rfl
  rw [show Int32.ofInt 255 = 255 from rfl, h, nI_toInt (by omega)]
  omega
theorem byt_r (v s : Int) : 0 ≤ byt v s ∧ byt v s < 256 := bAnd255 _
theorem c_sign {v : Int} {n : Nat} (hn : M 1 1 = (n : Int)) (h80 : n ≤ 80) : Ct 1 23 [pR 1, pI v] LC (PC b) M (some (pI (if 76 < n then -1 else ((n + 4 : Nat) : Int)))) (PC b) (if 76 < n then M else uM (uM (uM (uM (uM (uM (uM (uM M 2 n (byt v 24)) 1 1 ((n + 1 : Nat) : Int)) 2 (n + 1) (byt v 16)) 1 1 ((n + 2 : Nat) : Int)) 2 (n + 2) (byt v 8)) 1 1 ((n + 3 : Nat) : Int)) 2 (n + 3) (byt v 0)) 1 1 ((n + 4 : Nat) : Int)) := by
  refine Ct_r [some (pR 1), some (pI v), none] (Nat.le_of_ble_eq_true rfl) rfl (fun d hd Q X hq => ?_)
  have e4 : w32 ((n : Int) + 4) = ((n + 4 : Nat) : Int) := by unfold w32; omega
  by_cases h : 76 < n
  · rw [if_pos h, if_pos h] at hq
    simp only [s_23_0, s_23_1, s_23_4, s_23_5, s_23_6, s_23_7, s_23_10, s_23_11, s_23_14, s_23_15, s_23_16, s_23_18, s_23_20, s_23_23, s_23_24, s_23_27, s_23_28, s_23_31, s_23_32, s_23_33, s_23_34, s_23_37, s_23_38, s_23_39, s_23_40, s_23_41I, s_23_41, s_23_42, s_23_45, s_23_46, s_23_47, s_23_50, s_23_53, s_23_56, s_23_57, s_23_60, true_and, and_true, sc0, sc1, sc2, sc3, sc4, Option.toList, List.cons_append, List.nil_append, clr, ne_eq, not_false_eq_true, not_true_eq_false, false_and, and_false, true_or, or_true, or_false, false_or, forall_const, Nat.reduceEqDiff, List.length_nil, List.length_cons, Nat.zero_le, Nat.reduceAdd, Nat.reduceLeDiff, false_implies, true_implies, Int.reduceEq, Int.reduceNe, Int.reduceLT, Int.reduceLE, Int.reduceNeg, Int.reduceToNat, Int.toNat_natCast, Nat.reduceLT, and_self, Decidable.not_not, kC_1, pC_1_0, kC_2, hn, e4, show ¬ ((n + 4 : Nat) : Int) ≤ ((80 : Nat) : Int) by omega, show 1 ≤ 4 by omega, show 4 ≤ 9 by omega]
    exact hq
  · rw [if_neg h, if_neg h] at hq
    have step : ∀ (N : MM) (k : Nat) (s s2 : Int), k < 80 → 0 ≤ s → w32 (s + (-8)) = s2 → N 1 1 = (k : Int) → wpB (Ev d) 23 Q X 19 [some (pR 1), some (pI v), some (pI s2)] [] (kz LC) (PC b) (uM (uM N 2 k (byt v s)) 1 1 ((k + 1 : Nat) : Int)) → wpB (Ev d) 23 Q X 19 [some (pR 1), some (pI v), some (pI s)] [] (kz LC) (PC b) N := by
      intro N k s s2 hk hs hs2 hN hw
      have hb := byt_r v s
      have e1 : bAnd (bUshr v s) 255 % 65536 = byt v s := by show byt v s % 65536 = byt v s; omega
      rw [s_23_19]
      simp only [s_23_0, s_23_1, s_23_4, s_23_5, s_23_6, s_23_7, s_23_10, s_23_11, s_23_14, s_23_15, s_23_16, s_23_18, s_23_20, s_23_23, s_23_24, s_23_27, s_23_28, s_23_31, s_23_32, s_23_33, s_23_34, s_23_37, s_23_38, s_23_39, s_23_40, s_23_41I, s_23_41, s_23_42, s_23_45, s_23_46, s_23_47, s_23_50, s_23_53, s_23_56, s_23_57, s_23_60, true_and, and_true, sc0, sc1, sc2, sc3, sc4, Option.toList, List.cons_append, List.nil_append, clr, ne_eq, not_false_eq_true, not_true_eq_false, false_and, and_false, true_or, or_true, or_false, false_or, forall_const, Nat.reduceEqDiff, List.length_nil, List.length_cons, Nat.zero_le, Nat.reduceAdd, Nat.reduceLeDiff, false_implies, true_implies, Int.reduceEq, Int.reduceNe, Int.reduceLT, Int.reduceLE, Int.reduceNeg, Int.reduceToNat, Int.toNat_natCast, Nat.reduceLT, and_self, Decidable.not_not, kC_1, pC_1_0, kC_2, hN, show ¬ s < 0 by omega, e1, show 0 ≤ byt v s by omega, show byt v s < 65536 by omega, show (0 : Int) ≤ (k : Int) by omega, show (k : Int) < ((80 : Nat) : Int) by omega, uM_at, if_false, show ¬ (1 : Nat) = 2 by decide, w32n (show k < 1000000 by omega), hs2]
      exact hw
    simp only [s_23_0, s_23_1, s_23_4, s_23_5, s_23_6, s_23_7, s_23_10, s_23_11, s_23_14, s_23_15, s_23_16, s_23_18, s_23_20, s_23_23, s_23_24, s_23_27, s_23_28, s_23_31, s_23_32, s_23_33, s_23_34, s_23_37, s_23_38, s_23_39, s_23_40, s_23_41I, s_23_41, s_23_42, s_23_45, s_23_46, s_23_47, s_23_50, s_23_53, s_23_56, s_23_57, s_23_60, true_and, and_true, sc0, sc1, sc2, sc3, sc4, Option.toList, List.cons_append, List.nil_append, clr, ne_eq, not_false_eq_true, not_true_eq_false, false_and, and_false, true_or, or_true, or_false, false_or, forall_const, Nat.reduceEqDiff, List.length_nil, List.length_cons, Nat.zero_le, Nat.reduceAdd, Nat.reduceLeDiff, false_implies, true_implies, Int.reduceEq, Int.reduceNe, Int.reduceLT, Int.reduceLE, Int.reduceNeg, Int.reduceToNat, Int.toNat_natCast, Nat.reduceLT, and_self, Decidable.not_not, kC_1, pC_1_0, kC_2, hn, e4, show ((n + 4 : Nat) : Int) ≤ ((80 : Nat) : Int) by omega, show 1 ≤ 4 by omega, show 4 ≤ 9 by omega]
    refine step _ n 24 16 (by omega) (by decide) (by decide) hn ?_
    refine step _ (n + 1) 16 8 (by omega) (by decide) (by decide) (by simp [uM_at]) ?_
    refine step _ (n + 2) 8 0 (by omega) (by decide) (by decide) (by simp [uM_at]; omega) ?_
    refine step _ (n + 3) 0 (-8) (by omega) (by decide) (by decide) (by simp [uM_at]; omega) ?_
    rw [s_23_19]
    simp only [s_23_0, s_23_1, s_23_4, s_23_5, s_23_6, s_23_7, s_23_10, s_23_11, s_23_14, s_23_15, s_23_16, s_23_18, s_23_20, s_23_23, s_23_24, s_23_27, s_23_28, s_23_31, s_23_32, s_23_33, s_23_34, s_23_37, s_23_38, s_23_39, s_23_40, s_23_41I, s_23_41, s_23_42, s_23_45, s_23_46, s_23_47, s_23_50, s_23_53, s_23_56, s_23_57, s_23_60, true_and, and_true, sc0, sc1, sc2, sc3, sc4, Option.toList, List.cons_append, List.nil_append, clr, ne_eq, not_false_eq_true, not_true_eq_false, false_and, and_false, true_or, or_true, or_false, false_or, forall_const, Nat.reduceEqDiff, List.length_nil, List.length_cons, Nat.zero_le, Nat.reduceAdd, Nat.reduceLeDiff, false_implies, true_implies, Int.reduceEq, Int.reduceNe, Int.reduceLT, Int.reduceLE, Int.reduceNeg, Int.reduceToNat, Int.toNat_natCast, Nat.reduceLT, and_self, Decidable.not_not, kC_1, uM_at, if_true]
    exact hq
end
