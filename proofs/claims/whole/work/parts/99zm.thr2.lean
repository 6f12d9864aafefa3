/-! field, goer, row of the class: to the throw -/
def JnY (t y y' pcx : Nat) (as : List PV) : Prop := ∀ P Q M N, Rel t P Q M N → ∀ d, 200 ≤ d → (∃ v P' M' Q' N', Ev d y (pR 1 :: as) (kz LC) P M (some v) (kz LC) P' M' ∧ Ev d y' (pR 1 :: as) (kz LR) Q N (some v) (kz LR) Q' N' ∧ N' 1 10 = 0 ∧ Rel (t + 1) P' Q' M' N') ∨ (EvY d y pcx (pR 1 :: as) (kz LC) P M ∧ ∃ v Q' N', Ev d y' (pR 1 :: as) (kz LR) Q N (some v) (kz LR) Q' N' ∧ N' 1 10 = 1 ∧ Rel (t + 1) P Q' M N')
section
variable {E : CR} {m pc : Nat} {C : KT} {ls : PL} {st : List PV} {κ : KK} {P P' : PM} {M M' : MM}
theorem y_aload {k : Fin 4} {x : Nat} (hC : Clo E m C) (hd : decode (cod m) pc = .ok (.aload_n k, 1)) (hl : ls[k.val]? = some (some (pR x))) (h : C (pc + 1) ls (pR x :: st) κ P M) : C pc ls st κ P M := hC _ _ _ _ _ _ ⟨_, _, hd, rfl, x, hl, h⟩
theorem y_iload {k : Fin 4} {x : Int} (hC : Clo E m C) (hd : decode (cod m) pc = .ok (.iload_n k, 1)) (hl : ls[k.val]? = some (some (pI x))) (h : C (pc + 1) ls (pI x :: st) κ P M) : C pc ls st κ P M := hC _ _ _ _ _ _ ⟨_, _, hd, rfl, x, hl, h⟩
theorem y_iconst {n : Int} (hC : Clo E m C) (hd : decode (cod m) pc = .ok (.iconst n, 1)) (hn : -1 ≤ n ∧ n ≤ 5) (h : C (pc + 1) ls (pI n :: st) κ P M) : C pc ls st κ P M := hC _ _ _ _ _ _ ⟨_, _, hd, rfl, hn, h⟩
theorem y_getR {o i ci k : Nat} (hC : Clo E m C) (hd : decode (cod m) pc = .ok (.getfield i, 3)) (hf : FT (mow m) i = some (ci, k, 8)) (hk : kd κ o = (0, ci)) (hp : P o k ≠ 0) (h : C (pc + 3) ls (pR (P o k) :: st) κ P M) : C pc ls (pR o :: st) κ P M := hC _ _ _ _ _ _ ⟨_, _, hd, rfl, o, st, rfl, ci, k, 8, hf, hk, fun _ => hp, h⟩
theorem y_getI {o i ci k : Nat} (hC : Clo E m C) (hd : decode (cod m) pc = .ok (.getfield i, 3)) (hf : FT (mow m) i = some (ci, k, 1)) (hk : kd κ o = (0, ci)) (h : C (pc + 3) ls (pI (M o k) :: st) κ P M) : C pc ls (pR o :: st) κ P M := hC _ _ _ _ _ _ ⟨_, _, hd, rfl, o, st, rfl, ci, k, 1, hf, hk, fun w => (by cases w), h⟩
theorem y_ifeq {x off : Int} {t : Nat} (hC : Clo E m C) (hd : decode (cod m) pc = .ok (.ifCond .eq off, 3)) (ht : (pc : Int) + off = (t : Int)) (h1 : x = 0 → C t ls st κ P M) (h2 : ¬ x = 0 → C (pc + 3) ls st κ P M) : C pc ls (pI x :: st) κ P M := by
  have e1 : tg pc off = t := by unfold tg; omega
  exact hC _ _ _ _ _ _ ⟨_, _, hd, rfl, x, st, rfl, by omega, fun w => by rw [e1]; exact h1 w, h2⟩
theorem y_iflt {x off : Int} {t : Nat} (hC : Clo E m C) (hd : decode (cod m) pc = .ok (.ifCond .lt off, 3)) (ht : (pc : Int) + off = (t : Int)) (h1 : x < 0 → C t ls st κ P M) (h2 : ¬ x < 0 → C (pc + 3) ls st κ P M) : C pc ls (pI x :: st) κ P M := by
  have e1 : tg pc off = t := by unfold tg; omega
  exact hC _ _ _ _ _ _ ⟨_, _, hd, rfl, x, st, rfl, by omega, fun w => by rw [e1]; exact h1 w, h2⟩
theorem y_cmple {x y off : Int} {t : Nat} (hC : Clo E m C) (hd : decode (cod m) pc = .ok (.if_icmp .le off, 3)) (ht : (pc : Int) + off = (t : Int)) (h1 : x ≤ y → C t ls st κ P M) (h2 : ¬ x ≤ y → C (pc + 3) ls st κ P M) : C pc ls (pI y :: pI x :: st) κ P M := by
  have e1 : tg pc off = t := by unfold tg; omega
  exact hC _ _ _ _ _ _ ⟨_, _, hd, rfl, y, _, rfl, x, st, rfl, by omega, fun w => by rw [e1]; exact h1 w, h2⟩
theorem y_cmplt {x y off : Int} {t : Nat} (hC : Clo E m C) (hd : decode (cod m) pc = .ok (.if_icmp .lt off, 3)) (ht : (pc : Int) + off = (t : Int)) (h1 : x < y → C t ls st κ P M) (h2 : ¬ x < y → C (pc + 3) ls st κ P M) : C pc ls (pI y :: pI x :: st) κ P M := by
  have e1 : tg pc off = t := by unfold tg; omega
  exact hC _ _ _ _ _ _ ⟨_, _, hd, rfl, y, _, rfl, x, st, rfl, by omega, fun w => by rw [e1]; exact h1 w, h2⟩
theorem y_virt1 {i y o ci : Nat} {b0 : PV} {r : Option PV} {L L' : List (Nat × Nat)} (hC : Clo E m C) (hd : decode (cod m) pc = .ok (.invokevirtual i, 3)) (hct : CTb (mow m) i = some (1, y)) (hlen : nar y = 1) (hci : mow y = ci) (hk : kd (kz L) o = (0, ci)) (h4 : scat st ≤ 8) (hE : E y [pR o, b0] (kz L) P M r (kz L') P' M') (h : C (pc + 3) ls (r.toList ++ st) (kz L') P' M') : C pc ls (b0 :: pR o :: st) (kz L) P M := by
  refine hC _ _ _ _ _ _ ⟨_, _, hd, rfl, 1, y, hct, by omega, ?_⟩
  unfold kInv
  rw [if_pos (by omega), hlen]
  exact ⟨⟨o, [b0], rfl, by rw [hci]; exact hk⟩, kcall_z h4 hE h⟩
end
section
variable {M : MM} {b : Bool} {r c z n : Nat} {A B : Nat → Int} {V : GV} {u : Int}
theorem y_field {d : Nat} {f w : Int} (h : WdC M b r c z n A B V u) (hd : 2 ≤ d) (hno : ¬ ((0 ≤ f ∧ f < (z : Int)) ∧ 0 ≤ w ∧ w ≤ 3)) : EvY d 153 20 [pR 1, pI f, pI w] (kz LC) (PC b) M := by
  refine ⟨(Nat.le_of_ble_eq_true rfl), fun C hC h20 => ?_⟩
  rw [show entL 153 [pR 1, pI f, pI w] = [some (pR 1), some (pI f), some (pI w)] from rfl]
  have hgh := c_Ghas (b := b) (M := M) (f := f)
  rw [GrC_s h.1] at hgh
  refine y_aload (k := 0) hC (by decide +kernel) rfl ?_
  refine y_getR (i := 20) (ci := 10) (k := 2) hC (by decide +kernel) (by decide +kernel) kC_1 (by rw [pC_1_2]; decide) ?_
  rw [pC_1_2]
  refine y_iload (k := 1) hC (by decide +kernel) rfl ?_
  refine y_virt1 (i := 153) (y := 42) (ci := 1) hC (by decide +kernel) (by decide +kernel) nar_42 (by decide +kernel) kC_3 (Nat.le_of_ble_eq_true rfl) (hgh d (by omega)) ?_
  refine y_ifeq (off := 12) (t := 20) hC (by decide +kernel) rfl (fun _ => h20 _) (fun c1 => ?_)
  have c1 : 0 ≤ f ∧ f < (z : Int) := by
    rcases Decidable.em (0 ≤ f ∧ f < (z : Int)) with q | q
    · exact q
    · rw [if_neg q] at c1; exact absurd rfl c1
  refine y_iload (k := 2) hC (by decide +kernel) rfl ?_
  refine y_iflt (off := 8) (t := 20) hC (by decide +kernel) rfl (fun _ => h20 _) (fun c2 => ?_)
  refine y_iload (k := 2) hC (by decide +kernel) rfl ?_
  refine y_iconst (n := 3) hC (by decide +kernel) (by decide) ?_
  refine y_cmple (off := 11) (t := 28) hC (by decide +kernel) rfl (fun q => absurd ⟨c1, by omega, q⟩ hno) (fun _ => h20 _)
theorem y_goer {d : Nat} {f w : Int} (h : WdC M b r c z n A B V u) (hd : 2 ≤ d) (hno : ¬ ((0 ≤ f ∧ f < (n : Int)) ∧ 0 ≤ w ∧ w ≤ 5)) : EvY d 154 20 [pR 1, pI f, pI w] (kz LC) (PC b) M := by
  refine ⟨(Nat.le_of_ble_eq_true rfl), fun C hC h20 => ?_⟩
  rw [show entL 154 [pR 1, pI f, pI w] = [some (pR 1), some (pI f), some (pI w)] from rfl]
  have hgh := c_Shas (b := b) (M := M) (g := f) now_st
  rw [h.2.1.2.2.2.1] at hgh
  refine y_aload (k := 0) hC (by decide +kernel) rfl ?_
  refine y_getR (i := 29) (ci := 10) (k := 3) hC (by decide +kernel) (by decide +kernel) kC_1 (by rw [pC_1_3]; decide) ?_
  rw [pC_1_3]
  refine y_iload (k := 1) hC (by decide +kernel) rfl ?_
  refine y_virt1 (i := 174) (y := 41) (ci := 7) hC (by decide +kernel) (by decide +kernel) nar_41 (by decide +kernel) kC_5 (Nat.le_of_ble_eq_true rfl) (hgh d (by omega)) ?_
  refine y_ifeq (off := 12) (t := 20) hC (by decide +kernel) rfl (fun _ => h20 _) (fun c1 => ?_)
  have c1 : 0 ≤ f ∧ f < (n : Int) := by
    rcases Decidable.em (0 ≤ f ∧ f < (n : Int)) with q | q
    · exact q
    · rw [if_neg q] at c1; exact absurd rfl c1
  refine y_iload (k := 2) hC (by decide +kernel) rfl ?_
  refine y_iflt (off := 8) (t := 20) hC (by decide +kernel) rfl (fun _ => h20 _) (fun c2 => ?_)
  refine y_iload (k := 2) hC (by decide +kernel) rfl ?_
  refine y_iconst (n := 5) hC (by decide +kernel) (by decide) ?_
  refine y_cmple (off := 11) (t := 28) hC (by decide +kernel) rfl (fun q => absurd ⟨c1, by omega, q⟩ hno) (fun _ => h20 _)
theorem y_row {d : Nat} {i : Int} {R : List Int} (h : ToC M R) (hno : ¬ (0 ≤ i ∧ i < (R.length : Int))) : EvY d 155 15 [pR 1, pI i] (kz LC) (PC b) M := by
  refine ⟨(Nat.le_of_ble_eq_true rfl), fun C hC h20 => ?_⟩
  rw [show entL 155 [pR 1, pI i] = [some (pR 1), some (pI i)] from rfl]
  have e1 := h.1
  refine y_iload (k := 1) hC (by decide +kernel) rfl ?_
  refine y_iflt (off := 14) (t := 15) hC (by decide +kernel) rfl (fun _ => h20 _) (fun c2 => ?_)
  refine y_iload (k := 1) hC (by decide +kernel) rfl ?_
  refine y_aload (k := 0) hC (by decide +kernel) rfl ?_
  refine y_getR (i := 70) (ci := 10) (k := 10) hC (by decide +kernel) (by decide +kernel) kC_1 (by rw [pC_1_10]; decide) ?_
  rw [pC_1_10]
  refine y_getI (i := 405) (ci := 8) (k := 1) hC (by decide +kernel) (by decide +kernel) kC_172 ?_
  rw [e1]
  refine y_cmplt (off := 11) (t := 23) hC (by decide +kernel) rfl (fun q => absurd ⟨by omega, q⟩ hno) (fun _ => h20 _)
end
theorem jy_field {t : Nat} {f w : Int} : JnY t 153 184 20 [pI f, pI w] := by
  intro P Q M N hR d hd
  obtain ⟨b, rd, r, c, z, n, A, B, V, u, U, K, m, F, I, T, ln, R, rfl, rfl, hC, hD, hU, hK⟩ := hR
  by_cases hk : (0 ≤ f ∧ f < (z : Int)) ∧ 0 ≤ w ∧ w ≤ 3
  case neg =>
    have e2 := r_field_no (rd := rd) hD.1 hk d (by omega)
    exact Or.inr ⟨y_field hC.1 (by omega) hk, _, _, _, e2, by simp [uM_at], b, rd, r, c, z, n, A, B, V, u, U, K, m, F, I, T, ln, R, rfl, rfl, hC, RelR_11 hD, hU, hK⟩
  obtain ⟨i, rfl⟩ : ∃ i : Nat, f = (i : Int) := ⟨f.toNat, by omega⟩
  obtain ⟨x, P1, M1, e1, q1⟩ := c_field (b := b) hC.1 (show i < z by omega) hk.2 d (by omega)
  obtain ⟨x', Q1, N1, e2, q2⟩ := r_field (rd := rd) hD.1 (show i < z by omega) hk.2 d (by omega)
  have hx := q1.2.1
  have hx' := q2.2.1
  obtain ⟨rd', hq⟩ := q2.1
  subst hx; subst hx'
  exact Or.inl ⟨_, _, _, _, _, e1, e2, q2.2.2.2.1, b, rd', r, c, z, n, A, B, V, u, U, K, m, F, I, T, ln, R, q1.1, hq, RelC_q hC q1, RelR_q hD q2, hU, hK⟩
theorem jy_goer {t : Nat} {f w : Int} : JnY t 154 195 20 [pI f, pI w] := by
  intro P Q M N hR d hd
  obtain ⟨b, rd, r, c, z, n, A, B, V, u, U, K, m, F, I, T, ln, R, rfl, rfl, hC, hD, hU, hK⟩ := hR
  by_cases hk : (0 ≤ f ∧ f < (n : Int)) ∧ 0 ≤ w ∧ w ≤ 5
  case neg =>
    have e2 := r_goer_no (rd := rd) hD.1 hk d (by omega)
    exact Or.inr ⟨y_goer hC.1 (by omega) hk, _, _, _, e2, by simp [uM_at], b, rd, r, c, z, n, A, B, V, u, U, K, m, F, I, T, ln, R, rfl, rfl, hC, RelR_11 hD, hU, hK⟩
  obtain ⟨i, rfl⟩ : ∃ i : Nat, f = (i : Int) := ⟨f.toNat, by omega⟩
  obtain ⟨x, P1, M1, e1, q1⟩ := c_goer (b := b) hC.1 (show i < n by omega) hk.2 d (by omega)
  obtain ⟨x', Q1, N1, e2, q2⟩ := r_goer (rd := rd) hD.1 (show i < n by omega) hk.2 d (by omega)
  have hx := q1.2.1
  have hx' := q2.2.1
  obtain ⟨rd', hq⟩ := q2.1
  subst hx; subst hx'
  exact Or.inl ⟨_, _, _, _, _, e1, e2, q2.2.2.2.1, b, rd', r, c, z, n, A, B, V, u, U, K, m, F, I, T, ln, R, q1.1, hq, RelC_q hC q1, RelR_q hD q2, hU, hK⟩
theorem jy_row {t : Nat} {i : Int} : JnY t 155 270 15 [pI i] := by
  intro P Q M N hR d hd
  obtain ⟨b, rd, r, c, z, n, A, B, V, u, U, K, m, F, I, T, ln, R, rfl, rfl, hC, hD, hU, hK⟩ := hR
  have hTC : ToC M R := hC.2.2.2.2.2.1
  have hTR : ToR N R := hD.2.2.2.2.2
  have e2 := r_row (rd := rd) (ru := 7) (i := i) hTR.1 (by have := hTR.2.1; omega) d (by omega)
  by_cases hk : 0 ≤ i ∧ i < (R.length : Int)
  case neg =>
    rw [if_neg hk, if_neg hk] at e2
    exact Or.inr ⟨y_row hTC hk, _, _, _, e2, by simp [uM_at], b, rd, r, c, z, n, A, B, V, u, U, K, m, F, I, T, ln, R, rfl, rfl, hC, RelR_11 hD, hU, hK⟩
  rw [if_pos hk, if_pos hk] at e2
  obtain ⟨k, rfl⟩ : ∃ k : Nat, i = (k : Int) := ⟨i.toNat, by omega⟩
  have e1 := c_row (b := b) hTC (show k < R.length by omega) d (by omega)
  rw [Int.toNat_natCast, hTR.2.2 k (by omega)] at e2
  exact Or.inl ⟨_, _, _, _, _, e1, e2, by simp [uM_at], b, rd, r, c, z, n, A, B, V, u, U, K, m, F, I, T, ln, R, rfl, rfl, hC, RelR_10 hD, hU, hK⟩
