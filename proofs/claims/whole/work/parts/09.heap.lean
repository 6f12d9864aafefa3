/-! fields and arrays -/
set_option maxRecDepth 100000 in
theorem fnest : ftab.all (fun e => decide (e.2.2.2.2 = 0) || decide (e.1 ≠ e.2.2.1)) = true := by decide +kernel
theorem ft_ok {ow idx ci k t : Nat} (h : FT ow idx = some (ci, k, t)) : ci < 12 ∧ k < nfl ci ∧ t = ftc ci k ∧ ((∃ j : Nat, lw_tbl[j]? = some (.fieldLink (ownN ow) idx (crow ci).1 (frow ci k).1 (frow ci k).2.1)) ∨ (ow ≠ ci ∧ ∃ j : Nat, lw_tbl[j]? = some (.fieldLinkNest (ownN ow) idx (crow ci).1 (frow ci k).1 (frow ci k).2.1 "BuriedWithIt"))) := by
  unfold FT at h
  obtain ⟨e, he, he2⟩ := Option.map_eq_some_iff.mp h
  have hp := List.find?_some he
  simp only [Bool.and_eq_true, beq_iff_eq] at hp
  have hmem := List.mem_of_find?_eq_some he
  obtain ⟨i, hi⟩ := List.getElem?_of_mem hmem
  have hl : i < fplc.length := by rw [← fchk.2]; exact (List.getElem?_eq_some_iff.mp hi).1
  have hz : (ftab.zip fplc)[i]? = some (e, fplc[i]) := by rw [List.getElem?_zip_eq_some]; exact ⟨hi, List.getElem?_eq_getElem hl⟩
  have hc := List.all_eq_true.mp fchk.1 _ (List.mem_of_getElem? hz)
  simp only [chkF, Bool.and_eq_true, decide_eq_true_eq] at hc
  have hn := List.all_eq_true.mp fnest _ hmem
  simp only [Bool.or_eq_true, decide_eq_true_eq] at hn
  simp only [Prod.mk.injEq] at he2
  obtain ⟨e1, e2, e3⟩ := he2
  unfold fLk at hc
  rw [e1, e2, hp.1, hp.2] at hc
  rw [hp.1, e1] at hn
  rw [e1, e2] at e3
  refine ⟨hc.1.1, hc.1.2, e3.symm, ?_⟩
  have hw := hc.2
  split at hw
  · exact Or.inl ⟨_, hw⟩
  · rename_i q
    exact Or.inr ⟨hn.resolve_left q, _, hw⟩
theorem cl_ok {ci : Nat} (h : ci < 12) : (∃ j : Nat, lw_tbl[j]? = some (.instantiable (crow ci).1 (nfl ci))) ∧ (∃ j : Nat, lw_tbl[j]? = some (.initialized (crow ci).1)) ∧ (∀ w ∈ u_ws (crow ci).1 (cT ci) (nfl ci), w ∈ GW) ∧ (∀ k, k < nfl ci → parseFieldDescriptor (cT ci k).2.2.1 = some (fty ci k)) ∧ (∀ a, a < nfl ci → ∀ b, b < nfl ci → a ≠ b → (cT ci a).2.1 ≠ (cT ci b).2.1) ∧ (∀ k, k < nfl ci → (ftc ci k = 1 ∧ fty ci k = .int) ∨ (ftc ci k = 2 ∧ fty ci k = .boolean) ∨ (ftc ci k = 5 ∧ fty ci k = .long) ∨ (ftc ci k = 8 ∧ isRty (fty ci k) = true)) := by
  have hc := List.all_eq_true.mp cchk ci (List.mem_range.mpr h)
  unfold chkC at hc
  dsimp only at hc
  simp only [Bool.and_eq_true, decide_eq_true_eq, List.all_eq_true, List.mem_range, Bool.or_eq_true] at hc
  obtain ⟨⟨h1, h2⟩, h3⟩ := hc
  refine ⟨⟨_, h1⟩, ⟨_, h2⟩, ?_, ?_, ?_, ?_⟩
  · intro w hw
    simp only [u_ws, List.mem_map, List.mem_range] at hw
    obtain ⟨k, hk, rfl⟩ := hw
    obtain ⟨⟨⟨⟨a, b⟩, _⟩, _⟩, _⟩ := h3 k hk
    exact in_GW a b
  · intro k hk
    obtain ⟨⟨⟨⟨_, _⟩, c⟩, _⟩, _⟩ := h3 k hk
    exact c
  · intro a ha b hb hne
    obtain ⟨_, d⟩ := h3 a ha
    exact (d b hb).resolve_left hne
  · intro k hk
    obtain ⟨⟨_, c⟩, _⟩ := h3 k hk
    split at c
    · rename_i q; exact Or.inl ⟨q, by simpa using c⟩
    · split at c
      · rename_i q; exact Or.inr (Or.inl ⟨q, by simpa using c⟩)
      · split at c
        · rename_i q; exact Or.inr (Or.inr (Or.inl ⟨q, by simpa using c⟩))
        · simp only [Bool.and_eq_true, decide_eq_true_eq] at c
          exact Or.inr (Or.inr (Or.inr c))
theorem fvl_val {ad : Nat → Nat} {t p : Nat} {x : Int} (h : t = 8 → p ≠ 0) : fvl ad t p x = val ad (fvp t p x) := by
  unfold fvl fvp
  split
  · rename_i q
    rw [if_neg (h q)]
    rfl
  · split <;> rfl
theorem fv_ok {κ : KK} {P : PM} {M : MM} {o ci k : Nat} (hM : Mok κ M) (hP : Pok κ P) (hk : kd κ o = (0, ci)) : vok κ (fvp (ftc ci k) (P o k) (M o k)) := by
  have hr := hM o k (kd_lt hk (by decide))
  rw [hk] at hr
  have e : tyk (0, ci) k = ftc ci k := rfl
  rw [e] at hr
  unfold fvp
  split
  · exact hP o k
  · split
    · rename_i q; exact rngF_64 hr q
    · rename_i q; exact rngF_32 hr q
/-- an object's own place in the world -/
theorem ws_obj {ad : Nat → Nat} {cA : Nat → ClassId} {κ : KK} {P : PM} {M : MM} {o ci : Nat} (h0 : o ≠ 0) (hk : kd κ o = (0, ci)) : (wsOf ad cA κ P M)[o - 1]? = some (ad o, .inr (ci, (List.range (nfl ci)).map (fun j => fvl ad (ftc ci j) (P o j) (M o j)))) := by
  rw [wsOf_get (by omega) (kd_lt hk (by decide)), hk]
  rfl
theorem ws_arr {ad : Nat → Nat} {cA : Nat → ClassId} {κ : KK} {P : PM} {M : MM} {o : Nat} (h0 : o ≠ 0) (hk : (kd κ o).1 = 1 ∨ (kd κ o).1 = 2 ∨ (kd κ o).1 = 3 ∨ (kd κ o).1 = 4) : (wsOf ad cA κ P M)[o - 1]? = some (ad o, .inl (cA o, (kd κ o).2, .inl (fun j => Int32.ofInt (M o j)))) := by
  rw [wsOf_get (by omega) (kd1_lt rfl (by omega))]
  unfold cellOf
  rw [if_neg (by omega), if_neg (by omega), if_neg (by omega)]
theorem ws_larr {ad : Nat → Nat} {cA : Nat → ClassId} {κ : KK} {P : PM} {M : MM} {o : Nat} (h0 : o ≠ 0) (hk : (kd κ o).1 = 5) : (wsOf ad cA κ P M)[o - 1]? = some (ad o, .inl (cA o, (kd κ o).2, .inr (.inl (fun j => Int64.ofInt (M o j))))) := by
  rw [wsOf_get (by omega) (kd1_lt rfl (by omega))]
  unfold cellOf
  rw [if_neg (by omega), if_pos hk]
theorem ws_qarr {ad : Nat → Nat} {cA : Nat → ClassId} {κ : KK} {P : PM} {M : MM} {o : Nat} (h0 : o ≠ 0) (hk : (kd κ o).1 = 6 ∨ (kd κ o).1 = 7) : (wsOf ad cA κ P M)[o - 1]? = some (ad o, .inl (cA o, (kd κ o).2, .inr (.inr (.inr (.inr (fun j => rfl9 ad (P o j))))))) := by
  rw [wsOf_get (by omega) (kd1_lt rfl (by omega))]
  unfold cellOf
  rw [if_neg (by omega), if_neg (by omega), if_pos hk]
theorem narrow_ref {t : FieldType} (h : isRty t = true) (a : Nat) : narrow t (.ref a) = .ref a ∧ fits t (.ref a) = true := by
  cases t <;> first | (cases h; done) | exact ⟨rfl, rfl⟩
theorem fs_set {ad : Nat → Nat} {ci k o : Nat} {P P' : PM} {M M' : MM} {v : Value} (hP : ∀ j, j ≠ k → P' o j = P o j) (hM : ∀ j, j ≠ k → M' o j = M o j) (hv : fvl ad (ftc ci k) (P' o k) (M' o k) = v) : ((List.range (nfl ci)).map (fun j => fvl ad (ftc ci j) (P o j) (M o j))).set k v = (List.range (nfl ci)).map (fun j => fvl ad (ftc ci j) (P' o j) (M' o j)) := by
  apply List.ext_getElem?
  intro i
  rw [List.getElem?_set]
  by_cases hi : i < nfl ci
  · by_cases q : k = i
    · subst q
      simp [hi, hv]
    · simp [hi, q, hP i (fun z => q z.symm), hM i (fun z => q z.symm)]
  · by_cases q : k = i
    · subst q
      simp [hi]
    · simp [hi, q]
