/-! constructors: the leaves -/
def Cn (k : Nat) (b : Nat × Nat) (y : Nat) (as : List PV) (L : List (Nat × Nat)) (P : PM) (M : MM) (L' : List (Nat × Nat)) (Post : PM → MM → Prop) : Prop := ∀ d, k ≤ d → ∃ P' M', Ev d y as (b, L) P M none (kz L') P' M' ∧ Post P' M'
theorem Cn_k {k y : Nat} {b : Nat × Nat} {as : List PV} {L L' : List (Nat × Nat)} {P : PM} {M : MM} {Post : PM → MM → Prop} (ls : PL) (hn : (ent as).length ≤ mxl y) (hl : entL y as = ls) (h : ∀ d, k ≤ d → ∀ (Q : QT) (X : XT), (∀ P' M', Post P' M' → Q none (kz L') P' M') → wpB (Ev d) y Q X 0 ls [] (b, L) P M) : Cn (k + 1) b y as L P M L' Post := by
  intro d hd
  obtain ⟨d, rfl⟩ : ∃ e, d = e + 1 := ⟨d - 1, by omega⟩
  rcases wp_ex (h d (by omega) (fun r κ' P' M' => (r = none ∧ κ' = kz L') ∧ Post P' M') (fun _ _ _ => False) (fun P' M' hp => ⟨⟨rfl, rfl⟩, hp⟩)) with ⟨r, κ', P', M', ⟨⟨e1, e2⟩, hp⟩, hw⟩ | ⟨_, _, _, hx, _⟩
  · subst e1; subst e2
    exact ⟨P', M', ⟨hn, by rw [hl]; exact hw⟩, hp⟩
  · exact hx.elim
def rP (P : PM) (o : Nat) (l : List Nat) : PM := fun o' k => if o' = o then l.getD k 0 else P o' k
def Vz (P : PM) (M : MM) (n : Nat) : Prop := ∀ o, n ≤ o → ∀ k, P o k = 0 ∧ M o k = 0
section
variable {P : PM} {M : MM} {L : List (Nat × Nat)} {n o q m k : Nat}
theorem zP_u {v : Nat} (h : ¬ m = o) : zP (uP P o k v) m = uP (zP P m) o k v := by
  funext o' j
  unfold zP uP
  by_cases e : o' = m
  · have : ¬ o' = o := fun w => h (by omega)
    simp [e, h]
  · simp [e]
    split
    · rename_i w
      have : ¬ o = m := fun q => h q.symm
      simp [this]
    · rfl
theorem zM_u {v : Int} (h : ¬ m = o) : zM (uM M o k v) m = uM (zM M m) o k v := by
  funext o' j
  unfold zM uM
  by_cases e : o' = m
  · simp [e, h]
  · simp [e]
    split
    · rename_i w
      have : ¬ o = m := fun q => h q.symm
      simp [this]
    · rfl
theorem zP_0 (h : ∀ k, P m k = 0) : zP P m = P := by
  funext o' j
  unfold zP
  split
  · rename_i e; rw [e, h]
  · rfl
theorem zM_0 (h : ∀ k, M m k = 0) : zM M m = M := by
  funext o' j
  unfold zM
  split
  · rename_i e; rw [e, h]
  · rfl
theorem uM_z (h : M o k = 0) : uM M o k 0 = M := by
  have := uM_idem (M := M) (o := o) (k := k)
  rw [h] at this
  exact this
theorem rP_0 (h : ∀ k, P o k = 0) : P = rP P o [] := by
  funext o' j
  unfold rP
  split
  · rename_i e; rw [e, h]; rfl
  · rfl
theorem rP_u {l : List Nat} {v : Nat} : uP (rP P o l) o k v = rP P o ((l ++ List.replicate (k + 1 - l.length) 0).set k v) := by
  funext o' j
  unfold uP rP
  by_cases e : o' = o
  · simp only [e, if_true]
    simp only [List.getD_eq_getElem?_getD]
    rw [List.getElem?_set]
    by_cases w : j = k
    · subst w
      rw [if_pos rfl, if_pos rfl, if_pos (by rw [List.length_append, List.length_replicate]; omega)]; rfl
    · rw [if_neg w, if_neg (fun q => w q.symm), List.getElem?_append]
      split
      · rfl
      · rename_i g
        rw [List.getElem?_eq_none (by omega), List.getElem?_replicate]
        split <;> rfl
  · simp only [e, if_false]
theorem uP_r (h : ∀ k, P o k = 0) {v : Nat} : uP P o k v = rP P o ((List.replicate (k + 1) 0).set k v) := by
  have h1 := rP_u (P := P) (o := o) (l := []) (k := k) (v := v)
  rw [← rP_0 h] at h1
  exact h1
theorem Vz_P (h : Vz P M n) : zP P n = P := zP_0 (fun k => (h n (Nat.le_refl _) k).1)
theorem Vz_M (h : Vz P M n) : zM M n = M := zM_0 (fun k => (h n (Nat.le_refl _) k).2)
theorem Vz_Pj (h : Vz P M n) : ∀ j, zP P (n + j) = P := fun j => zP_0 (fun k => (h (n + j) (by omega) k).1)
theorem Vz_Mj (h : Vz P M n) : ∀ j, zM M (n + j) = M := fun j => zM_0 (fun k => (h (n + j) (by omega) k).2)
theorem kd_a {b : Nat × Nat} {l : List (Nat × Nat)} {x : Nat × Nat} (ho : o < L.length) (hk : L.getD o (99, 0) = x) : kd (b, L ++ l) o = x := by
  unfold kd
  rw [← hk, List.getD_eq_getElem?_getD, List.getD_eq_getElem?_getD, List.getElem?_append_left ho]
theorem c_State (hL : L.length = n) (ho : o < n) (hk : L.getD o (99, 0) = (0, 7)) (hq : ¬ q = 0) (hV : Vz P M n) (hf : ∀ k, P o k = 0 ∧ M o k = 0) : Cn 1 (7, 102) 3 [pR o, pR q] L P M (L ++ [(1, 36), (1, 36), (1, 6), (1, 6), (1, 6), (1, 6), (1, 6)]) (fun P' M' => P' = rP P o [q, n, n + 1, 0, 0, 0, n + 2, n + 3, n + 4, n + 5, n + 6] ∧ M' = M) := by
  refine Cn_k [some (pR o), some (pR q)] (Nat.le_of_ble_eq_true rfl) rfl (fun d hd Q X hQ => ?_)
  have k1 : ∀ b l, kd (b, L ++ l) o = (0, 7) := fun b l => kd_a (by omega) hk
  have k0 : ∀ b, kd (b, L) o = (0, 7) := fun b => hk
  have p0 := Vz_P hV
  have pj := Vz_Pj hV
  have m0 := Vz_M hV
  have mj := Vz_Mj hV
  have n0 : ¬ n = o := by omega
  have nj : ∀ j, ¬ n + j = o := fun j => by omega
  have z0 : ¬ n = 0 := by omega
  have zj : ∀ j, ¬ n + j = 0 := fun j => by omega
  have fM : ∀ k, M o k = 0 := fun k => (hf k).2
  have fP : ∀ k, P o k = 0 := fun k => (hf k).1
  simp only [s_3_0, s_3_4, s_3_5, s_3_9, s_3_12, s_3_13, s_3_17, s_3_20, s_3_21, s_3_22, s_3_25, s_3_26, s_3_27, s_3_30, s_3_31, s_3_32, s_3_35, s_3_36, s_3_40, s_3_43, s_3_44, s_3_48, s_3_51, s_3_52, s_3_56, s_3_59, s_3_60, s_3_64, s_3_67, s_3_68, s_3_72, s_3_75, s_3_76, s_3_77, s_3_80, n_3_1, n_3_7, n_3_15, n_3_38, n_3_46, n_3_54, n_3_62, n_3_70, true_and, and_true, sc0, sc1, sc2, sc3, sc4, Option.toList, List.cons_append, List.nil_append, clr, ne_eq, not_false_eq_true, not_true_eq_false, false_and, and_false, true_or, or_true, or_false, false_or, forall_const, Nat.reduceEqDiff, List.length_nil, List.length_cons, Nat.zero_le, Nat.reduceAdd, Nat.reduceLeDiff, false_implies, true_implies, Int.reduceEq, Int.reduceNe, Int.reduceLT, Int.reduceLE, Int.reduceNeg, Int.reduceToNat, Int.toNat_natCast, Nat.reduceLT, and_self, Decidable.not_not, Nat.reduceSub, Nat.sub_self, List.length_append, List.append_assoc, hL, Nat.add_assoc, zP_u n0, zP_u (nj _), zM_u n0, zM_u (nj _), p0, pj, m0, mj, k1, k0, z0, zj, hq, uM_z (fM _)]
  refine hQ _ _ ⟨?_, rfl⟩
  funext o' k
  simp only [uP, rP]
  by_cases e : o' = o
  · simp only [e, if_true]
    rcases k with _ | _ | _ | _ | _ | _ | _ | _ | _ | _ | _ | k <;> simp [fP]
  · simp only [e, if_false]
theorem c_Walker (hL : L.length = n) (ho : o < n) (hk : L.getD o (99, 0) = (0, 9)) (hq : ¬ q = 0) (hV : Vz P M n) (hf : ∀ k, P o k = 0 ∧ M o k = 0) : Cn 1 (2, 72) 6 [pR o, pR q] L P M (L ++ [(1, 36), (1, 36)]) (fun P' M' => P' = rP P o [q, n, n + 1] ∧ M' = M) := by
  refine Cn_k [some (pR o), some (pR q)] (Nat.le_of_ble_eq_true rfl) rfl (fun d hd Q X hQ => ?_)
  have k1 : ∀ b l, kd (b, L ++ l) o = (0, 9) := fun b l => kd_a (by omega) hk
  have k0 : ∀ b, kd (b, L) o = (0, 9) := fun b => hk
  have p0 := Vz_P hV
  have pj := Vz_Pj hV
  have m0 := Vz_M hV
  have mj := Vz_Mj hV
  have n0 : ¬ n = o := by omega
  have nj : ∀ j, ¬ n + j = o := fun j => by omega
  have z0 : ¬ n = 0 := by omega
  have zj : ∀ j, ¬ n + j = 0 := fun j => by omega
  have fM : ∀ k, M o k = 0 := fun k => (hf k).2
  have fP : ∀ k, P o k = 0 := fun k => (hf k).1
  simp only [s_6_0, s_6_4, s_6_5, s_6_9, s_6_12, s_6_13, s_6_17, s_6_20, s_6_21, s_6_22, s_6_25, n_6_1, n_6_7, n_6_15, true_and, and_true, sc0, sc1, sc2, sc3, sc4, Option.toList, List.cons_append, List.nil_append, clr, ne_eq, not_false_eq_true, not_true_eq_false, false_and, and_false, true_or, or_true, or_false, false_or, forall_const, Nat.reduceEqDiff, List.length_nil, List.length_cons, Nat.zero_le, Nat.reduceAdd, Nat.reduceLeDiff, false_implies, true_implies, Int.reduceEq, Int.reduceNe, Int.reduceLT, Int.reduceLE, Int.reduceNeg, Int.reduceToNat, Int.toNat_natCast, Nat.reduceLT, and_self, Decidable.not_not, Nat.reduceSub, Nat.sub_self, List.length_append, List.append_assoc, hL, Nat.add_assoc, zP_u n0, zP_u (nj _), zM_u n0, zM_u (nj _), p0, pj, m0, mj, k1, k0, z0, zj, hq, uM_z (fM _)]
  refine hQ _ _ ⟨?_, rfl⟩
  funext o' k
  simp only [uP, rP]
  by_cases e : o' = o
  · simp only [e, if_true]
    rcases k with _ | _ | _ | _ | _ | _ | _ | _ | _ | _ | _ | k <;> simp [fP]
  · simp only [e, if_false]
theorem c_Path (hL : L.length = n) (ho : o < n) (hk : L.getD o (99, 0) = (0, 5)) (hV : Vz P M n) (hf : ∀ k, P o k = 0 ∧ M o k = 0) : Cn 1 (1, 36) 7 [pR o] L P M (L ++ [(1, 36)]) (fun P' M' => P' = rP P o [0, 0, 0, n] ∧ M' = M) := by
  refine Cn_k [some (pR o)] (Nat.le_of_ble_eq_true rfl) rfl (fun d hd Q X hQ => ?_)
  have k1 : ∀ b l, kd (b, L ++ l) o = (0, 5) := fun b l => kd_a (by omega) hk
  have k0 : ∀ b, kd (b, L) o = (0, 5) := fun b => hk
  have p0 := Vz_P hV
  have pj := Vz_Pj hV
  have m0 := Vz_M hV
  have mj := Vz_Mj hV
  have n0 : ¬ n = o := by omega
  have nj : ∀ j, ¬ n + j = o := fun j => by omega
  have z0 : ¬ n = 0 := by omega
  have zj : ∀ j, ¬ n + j = 0 := fun j => by omega
  have fM : ∀ k, M o k = 0 := fun k => (hf k).2
  have fP : ∀ k, P o k = 0 := fun k => (hf k).1
  simp only [s_7_0, s_7_4, s_7_5, s_7_6, s_7_9, s_7_10, s_7_11, s_7_14, s_7_15, s_7_16, s_7_19, s_7_20, s_7_24, s_7_27, n_7_1, n_7_22, true_and, and_true, sc0, sc1, sc2, sc3, sc4, Option.toList, List.cons_append, List.nil_append, clr, ne_eq, not_false_eq_true, not_true_eq_false, false_and, and_false, true_or, or_true, or_false, false_or, forall_const, Nat.reduceEqDiff, List.length_nil, List.length_cons, Nat.zero_le, Nat.reduceAdd, Nat.reduceLeDiff, false_implies, true_implies, Int.reduceEq, Int.reduceNe, Int.reduceLT, Int.reduceLE, Int.reduceNeg, Int.reduceToNat, Int.toNat_natCast, Nat.reduceLT, and_self, Decidable.not_not, Nat.reduceSub, Nat.sub_self, List.length_append, List.append_assoc, hL, Nat.add_assoc, zP_u n0, zP_u (nj _), zM_u n0, zM_u (nj _), p0, pj, m0, mj, k1, k0, z0, zj, uM_z (fM _)]
  refine hQ _ _ ⟨?_, rfl⟩
  funext o' k
  simp only [uP, rP]
  by_cases e : o' = o
  · simp only [e, if_true]
    rcases k with _ | _ | _ | _ | _ | _ | _ | _ | _ | _ | _ | k <;> simp [fP]
  · simp only [e, if_false]
theorem c_Lines (hL : L.length = n) (ho : o < n) (hk : L.getD o (99, 0) = (0, 2)) (hV : Vz P M n) (hf : ∀ k, P o k = 0 ∧ M o k = 0) : Cn 1 (3, 18) 8 [pR o] L P M (L ++ [(1, 6), (1, 6), (1, 6)]) (fun P' M' => P' = rP P o [0, n, n + 1, n + 2] ∧ M' = M) := by
  refine Cn_k [some (pR o)] (Nat.le_of_ble_eq_true rfl) rfl (fun d hd Q X hQ => ?_)
  have k1 : ∀ b l, kd (b, L ++ l) o = (0, 2) := fun b l => kd_a (by omega) hk
  have k0 : ∀ b, kd (b, L) o = (0, 2) := fun b => hk
  have p0 := Vz_P hV
  have pj := Vz_Pj hV
  have m0 := Vz_M hV
  have mj := Vz_Mj hV
  have n0 : ¬ n = o := by omega
  have nj : ∀ j, ¬ n + j = o := fun j => by omega
  have z0 : ¬ n = 0 := by omega
  have zj : ∀ j, ¬ n + j = 0 := fun j => by omega
  have fM : ∀ k, M o k = 0 := fun k => (hf k).2
  have fP : ∀ k, P o k = 0 := fun k => (hf k).1
  simp only [s_8_0, s_8_4, s_8_5, s_8_6, s_8_9, s_8_10, s_8_14, s_8_17, s_8_18, s_8_22, s_8_25, s_8_26, s_8_30, s_8_33, n_8_1, n_8_12, n_8_20, n_8_28, true_and, and_true, sc0, sc1, sc2, sc3, sc4, Option.toList, List.cons_append, List.nil_append, clr, ne_eq, not_false_eq_true, not_true_eq_false, false_and, and_false, true_or, or_true, or_false, false_or, forall_const, Nat.reduceEqDiff, List.length_nil, List.length_cons, Nat.zero_le, Nat.reduceAdd, Nat.reduceLeDiff, false_implies, true_implies, Int.reduceEq, Int.reduceNe, Int.reduceLT, Int.reduceLE, Int.reduceNeg, Int.reduceToNat, Int.toNat_natCast, Nat.reduceLT, and_self, Decidable.not_not, Nat.reduceSub, Nat.sub_self, List.length_append, List.append_assoc, hL, Nat.add_assoc, zP_u n0, zP_u (nj _), zM_u n0, zM_u (nj _), p0, pj, m0, mj, k1, k0, z0, zj, uM_z (fM _)]
  refine hQ _ _ ⟨?_, rfl⟩
  funext o' k
  simp only [uP, rP]
  by_cases e : o' = o
  · simp only [e, if_true]
    rcases k with _ | _ | _ | _ | _ | _ | _ | _ | _ | _ | _ | k <;> simp [fP]
  · simp only [e, if_false]
theorem c_Parting (hL : L.length = n) (ho : o < n) (hk : L.getD o (99, 0) = (0, 3)) (hq : ¬ q = 0) (hV : Vz P M n) (hf : ∀ k, P o k = 0 ∧ M o k = 0) : Cn 1 (3, 148) 9 [pR o, pR q] L P M (L ++ [(5, 4), (1, 72), (1, 72)]) (fun P' M' => P' = rP P o [q, 0, 0, n, n + 1, n + 2] ∧ M' = M) := by
  refine Cn_k [some (pR o), some (pR q)] (Nat.le_of_ble_eq_true rfl) rfl (fun d hd Q X hQ => ?_)
  have k1 : ∀ b l, kd (b, L ++ l) o = (0, 3) := fun b l => kd_a (by omega) hk
  have k0 : ∀ b, kd (b, L) o = (0, 3) := fun b => hk
  have p0 := Vz_P hV
  have pj := Vz_Pj hV
  have m0 := Vz_M hV
  have mj := Vz_Mj hV
  have n0 : ¬ n = o := by omega
  have nj : ∀ j, ¬ n + j = o := fun j => by omega
  have z0 : ¬ n = 0 := by omega
  have zj : ∀ j, ¬ n + j = 0 := fun j => by omega
  have fM : ∀ k, M o k = 0 := fun k => (hf k).2
  have fP : ∀ k, P o k = 0 := fun k => (hf k).1
  simp only [s_9_0, s_9_4, s_9_5, s_9_6, s_9_9, s_9_10, s_9_11, s_9_14, s_9_15, s_9_18, s_9_21, s_9_22, s_9_26, s_9_29, s_9_30, s_9_34, s_9_37, s_9_38, s_9_39, s_9_42, s_9_43, s_9_44, s_9_47, n_9_1, n_9_16, n_9_24, n_9_32, true_and, and_true, sc0, sc1, sc2, sc3, sc4, Option.toList, List.cons_append, List.nil_append, clr, ne_eq, not_false_eq_true, not_true_eq_false, false_and, and_false, true_or, or_true, or_false, false_or, forall_const, Nat.reduceEqDiff, List.length_nil, List.length_cons, Nat.zero_le, Nat.reduceAdd, Nat.reduceLeDiff, false_implies, true_implies, Int.reduceEq, Int.reduceNe, Int.reduceLT, Int.reduceLE, Int.reduceNeg, Int.reduceToNat, Int.toNat_natCast, Nat.reduceLT, and_self, Decidable.not_not, Nat.reduceSub, Nat.sub_self, List.length_append, List.append_assoc, hL, Nat.add_assoc, zP_u n0, zP_u (nj _), zM_u n0, zM_u (nj _), p0, pj, m0, mj, k1, k0, z0, zj, hq, uM_z (fM _)]
  refine hQ _ _ ⟨?_, rfl⟩
  funext o' k
  simp only [uP, rP]
  by_cases e : o' = o
  · simp only [e, if_true]
    rcases k with _ | _ | _ | _ | _ | _ | _ | _ | _ | _ | _ | k <;> simp [fP]
  · simp only [e, if_false]
theorem c_Told (hL : L.length = n) (ho : o < n) (hk : L.getD o (99, 0) = (0, 8)) (hV : Vz P M n) (hf : ∀ k, P o k = 0 ∧ M o k = 0) : Cn 1 (1, 36) 10 [pR o] L P M (L ++ [(5, 36)]) (fun P' M' => P' = rP P o [n] ∧ M' = M) := by
  refine Cn_k [some (pR o)] (Nat.le_of_ble_eq_true rfl) rfl (fun d hd Q X hQ => ?_)
  have k1 : ∀ b l, kd (b, L ++ l) o = (0, 8) := fun b l => kd_a (by omega) hk
  have k0 : ∀ b, kd (b, L) o = (0, 8) := fun b => hk
  have p0 := Vz_P hV
  have pj := Vz_Pj hV
  have m0 := Vz_M hV
  have mj := Vz_Mj hV
  have n0 : ¬ n = o := by omega
  have nj : ∀ j, ¬ n + j = o := fun j => by omega
  have z0 : ¬ n = 0 := by omega
  have zj : ∀ j, ¬ n + j = 0 := fun j => by omega
  have fM : ∀ k, M o k = 0 := fun k => (hf k).2
  have fP : ∀ k, P o k = 0 := fun k => (hf k).1
  simp only [s_10_0, s_10_4, s_10_5, s_10_9, s_10_12, s_10_13, s_10_14, s_10_17, n_10_1, n_10_7, true_and, and_true, sc0, sc1, sc2, sc3, sc4, Option.toList, List.cons_append, List.nil_append, clr, ne_eq, not_false_eq_true, not_true_eq_false, false_and, and_false, true_or, or_true, or_false, false_or, forall_const, Nat.reduceEqDiff, List.length_nil, List.length_cons, Nat.zero_le, Nat.reduceAdd, Nat.reduceLeDiff, false_implies, true_implies, Int.reduceEq, Int.reduceNe, Int.reduceLT, Int.reduceLE, Int.reduceNeg, Int.reduceToNat, Int.toNat_natCast, Nat.reduceLT, and_self, Decidable.not_not, Nat.reduceSub, Nat.sub_self, List.length_append, List.append_assoc, hL, Nat.add_assoc, zP_u n0, zP_u (nj _), zM_u n0, zM_u (nj _), p0, pj, m0, mj, k1, k0, z0, zj, uM_z (fM _)]
  refine hQ _ _ ⟨?_, rfl⟩
  funext o' k
  simp only [uP, rP]
  by_cases e : o' = o
  · simp only [e, if_true]
    rcases k with _ | _ | _ | _ | _ | _ | _ | _ | _ | _ | _ | k <;> simp [fP]
  · simp only [e, if_false]
theorem c_Rule (hL : L.length = n) (ho : o < n) (hk : L.getD o (99, 0) = (0, 6)) (hV : Vz P M n) (hf : ∀ k, P o k = 0 ∧ M o k = 0) : Cn 1 (4, 125) 11 [pR o] L P M (L ++ [(1, 40), (1, 40), (4, 40), (2, 5)]) (fun P' M' => P' = rP P o [n, 0, n + 1, n + 2, 0, n + 3] ∧ M' = uM M o 8 1) := by
  refine Cn_k [some (pR o)] (Nat.le_of_ble_eq_true rfl) rfl (fun d hd Q X hQ => ?_)
  have k1 : ∀ b l, kd (b, L ++ l) o = (0, 6) := fun b l => kd_a (by omega) hk
  have k0 : ∀ b, kd (b, L) o = (0, 6) := fun b => hk
  have p0 := Vz_P hV
  have pj := Vz_Pj hV
  have m0 := Vz_M hV
  have mj := Vz_Mj hV
  have n0 : ¬ n = o := by omega
  have nj : ∀ j, ¬ n + j = o := fun j => by omega
  have z0 : ¬ n = 0 := by omega
  have zj : ∀ j, ¬ n + j = 0 := fun j => by omega
  have fM : ∀ k, M o k = 0 := fun k => (hf k).2
  have fP : ∀ k, P o k = 0 := fun k => (hf k).1
  simp only [s_11_0, s_11_4, s_11_5, s_11_9, s_11_12, s_11_13, s_11_14, s_11_17, s_11_18, s_11_22, s_11_25, s_11_26, s_11_30, s_11_33, s_11_34, s_11_35, s_11_38, s_11_39, s_11_42, s_11_45, s_11_46, s_11_47, s_11_50, s_11_51, s_11_52, s_11_55, s_11_56, s_11_57, s_11_60, n_11_1, n_11_7, n_11_20, n_11_28, n_11_40, true_and, and_true, sc0, sc1, sc2, sc3, sc4, Option.toList, List.cons_append, List.nil_append, clr, ne_eq, not_false_eq_true, not_true_eq_false, false_and, and_false, true_or, or_true, or_false, false_or, forall_const, Nat.reduceEqDiff, List.length_nil, List.length_cons, Nat.zero_le, Nat.reduceAdd, Nat.reduceLeDiff, false_implies, true_implies, Int.reduceEq, Int.reduceNe, Int.reduceLT, Int.reduceLE, Int.reduceNeg, Int.reduceToNat, Int.toNat_natCast, Nat.reduceLT, and_self, Decidable.not_not, Nat.reduceSub, Nat.sub_self, List.length_append, List.append_assoc, hL, Nat.add_assoc, zP_u n0, zP_u (nj _), zM_u n0, zM_u (nj _), p0, pj, m0, mj, k1, k0, z0, zj, uM_z (fM _)]
  refine hQ _ _ ⟨?_, rfl⟩
  funext o' k
  simp only [uP, rP]
  by_cases e : o' = o
  · simp only [e, if_true]
    rcases k with _ | _ | _ | _ | _ | _ | _ | _ | _ | _ | _ | k <;> simp [fP]
  · simp only [e, if_false]
end
