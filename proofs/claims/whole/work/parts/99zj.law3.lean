/-! the law: one call of each, compared -/
theorem lg_cmp_self {x : Int64} : lg_cmp x x = 0 := by
  unfold lg_cmp
  simp
def argB (pc : Nat) (j : Int) : Bool := decide (decode code pc = .ok (.aload_n 0, 1)) && (decide (decode code (pc + 1) = .ok (.iload 4, 2)) && (decide (decode code (pc + 1 + 2) = .ok (.iconst j, 1)) && (decide (decode code (pc + 1 + 2 + 1) = .ok (.iadd, 1)) && decide (decode code (pc + 1 + 2 + 1 + 1) = .ok (.iaload, 1)))))
def argsB (pc : Nat) : Nat → Nat → Bool
  | 0, _ => true
  | k + 1, j => argB pc (j : Int) && argsB (pc + 6) k (j + 1)
def aV (xs : Nat → Int32) : Nat → Nat → List Int32
  | 0, _ => []
  | k + 1, n => xs n :: aV xs k (n + 1)
theorem aV_len {xs : Nat → Int32} : ∀ k n, (aV xs k n).length = k
  | 0, _ => rfl
  | k + 1, n => by show (aV xs k (n + 1)).length + 1 = k + 1; rw [aV_len k (n + 1)]
def caseI (pc k idx1 idx2 : Nat) (off : Int) : Bool := decide (decode code pc = .ok (.aload_n 1, 1)) && (argsB (pc + 1) k 1 && (decide (decode code (pc + 1 + 6 * k) = .ok (.invokevirtual idx1, 3)) && (decide (decode code (pc + 1 + 6 * k + 3) = .ok (.aload_n 2, 1)) && (argsB (pc + 1 + 6 * k + 3 + 1) k 1 && (decide (decode code (pc + 1 + 6 * k + 3 + 1 + 6 * k) = .ok (.invokevirtual idx2, 3)) && decide (decode code (pc + 1 + 6 * k + 3 + 1 + 6 * k + 3) = .ok (.if_icmp .eq off, 3)))))))
def caseL (pc k idx1 idx2 : Nat) (off : Int) : Bool := decide (decode code pc = .ok (.aload_n 1, 1)) && (argsB (pc + 1) k 1 && (decide (decode code (pc + 1 + 6 * k) = .ok (.invokevirtual idx1, 3)) && (decide (decode code (pc + 1 + 6 * k + 3) = .ok (.aload_n 2, 1)) && (argsB (pc + 1 + 6 * k + 3 + 1) k 1 && (decide (decode code (pc + 1 + 6 * k + 3 + 1 + 6 * k) = .ok (.invokevirtual idx2, 3)) && (decide (decode code (pc + 1 + 6 * k + 3 + 1 + 6 * k + 3) = .ok (.lcmp, 1)) && decide (decode code (pc + 1 + 6 * k + 3 + 1 + 6 * k + 3 + 1) = .ok (.ifCond .eq off, 3))))))))
/-- a method of the class, one of the reference, that the law calls by these entries of its pool -/
def lnk (y1 y2 idx1 idx2 k : Nat) : Bool := decide (y1 < 271) && decide (y2 < 271) && decide ((mpl y1).2.1 ≠ 1) && decide ((mpl y2).2.1 ≠ 1) && decide ((mN y1).name ≠ "<init>") && decide ((mN y2).name ≠ "<init>") && decide (mow y1 = 10) && decide (mow y2 = 11) && decide (nar y1 = k) && decide (nar y2 = k) && decide (Cond.methodLink R_lw idx1 (mN y1) ∈ GW) && decide (Cond.methodLink R_lw idx2 (mN y2) ∈ GW)
section
variable {p : Program} {l : Launch} {e : Env} {s : State} {m : MethodId} {below : List Frame} {meth : Method} {c : Code} {D : va_G} {QQ : State → Prop} {pc q1 q2 oa b Ls i t : Nat} {P Q : PM} {M N : MM} {H : Heap} {locs : List Loc} {cells slots : Nat} {ls : Array Slot} {rest : List Value} {xs : Nat → Int32} {xo : Int64}
/-- what stays through the loop -/
def Lc (p : Program) (s : State) (m : MethodId) (c : Code) (b Ls : Nat) (xs : Nat → Int32) : Prop := Lx p s m c #[Value.ref b] ∧ va_X b Ls xs s s.heap ∧ b < s.heap.size ∧ Ls ≤ 2560
theorem l_arg {j : Nat} (C : Lc p s m c b Ls xs) (hS : va_S (AS s) s.heap H locs) (hl0 : ls[0]? = some (.val (.ref b))) (hl4 : ls[4]? = some (.val (.int (nI i)))) (hi : i + j < Ls) (hB : argB pc (j : Int) = true) (h : W p l e room_1 s m #[Value.ref b] below meth c H locs cells slots QQ (F0 m (pc + 6) ls (.int (xs (i + j)) :: rest))) : W p l e room_1 s m #[Value.ref b] below meth c H locs cells slots QQ (F0 m pc ls rest) := by
  obtain ⟨⟨hx, hb, _⟩, hX, hbl, hL⟩ := C
  unfold argB at hB
  simp only [Bool.and_eq_true, decide_eq_true_eq] at hB
  obtain ⟨d1, d2, d3, d4, d5⟩ := hB
  have hbA : ¬ AS s b := Nat.not_le.mpr hbl
  refine lv_aload_n hx hb d1 rfl hl0 ?_
  refine lv_iload hx hb d2 hl4 ?_
  refine lv_iconst (v := nI j) hx hb d3 rfl ?_
  refine lv_iadd hx hb d4 ?_
  rw [nI_add]
  refine va_sld hx hb hX hbl hbA hS (vp_in_nI hi (by omega)) d5 ?_
  rw [nI_clamp (by omega)]
  exact h
theorem l_args (C : Lc p s m c b Ls xs) (hS : va_S (AS s) s.heap H locs) (hl0 : ls[0]? = some (.val (.ref b))) (hl4 : ls[4]? = some (.val (.int (nI i)))) : ∀ (k j pc : Nat) (rest : List Value), i + j + k ≤ Ls → argsB pc k j = true → W p l e room_1 s m #[Value.ref b] below meth c H locs cells slots QQ (F0 m (pc + 6 * k) ls (((aV xs k (i + j)).map Value.int).reverse ++ rest)) → W p l e room_1 s m #[Value.ref b] below meth c H locs cells slots QQ (F0 m pc ls rest) := by
  intro k
  induction k with
  | zero =>
    intro j pc rest _ _ h
    exact h
  | succ k ih =>
    intro j pc rest hi hB h
    unfold argsB at hB
    rw [Bool.and_eq_true] at hB
    refine l_arg C hS hl0 hl4 (by omega) hB.1 ?_
    refine ih (j + 1) (pc + 6) _ (by omega) hB.2 ?_
    have e1 : pc + 6 + 6 * k = pc + 6 * (k + 1) := by omega
    have e2 : ((aV xs k (i + (j + 1))).map Value.int).reverse ++ (.int (xs (i + j)) :: rest) = ((aV xs (k + 1) (i + j)).map Value.int).reverse ++ rest := by
      show _ = (Value.int (xs (i + j)) :: (aV xs k (i + j + 1)).map Value.int).reverse ++ rest
      rw [List.reverse_cons, List.append_assoc]; rfl
    rw [e1, e2]
    exact h
theorem lnk_ok {y1 y2 idx1 idx2 k : Nat} (h : lnk y1 y2 idx1 idx2 k = true) : (y1 < 271 ∧ (mpl y1).2.1 ≠ 1 ∧ (mN y1).name ≠ "<init>" ∧ mow y1 = 10) ∧ (y2 < 271 ∧ (mpl y2).2.1 ≠ 1 ∧ (mN y2).name ≠ "<init>" ∧ mow y2 = 11) ∧ nar y1 = k ∧ nar y2 = k ∧ Cond.methodLink R_lw idx1 (mN y1) ∈ GW ∧ Cond.methodLink R_lw idx2 (mN y2) ∈ GW := by
  unfold lnk at h
  simp only [Bool.and_eq_true, decide_eq_true_eq] at h
  obtain ⟨⟨⟨⟨⟨⟨⟨⟨⟨⟨⟨h1, h2⟩, h3⟩, h4⟩, h5⟩, h6⟩, h7⟩, h8⟩, h9⟩, h10⟩, h11⟩, h12⟩ := h
  exact ⟨⟨h1, h3, h5, h7⟩, ⟨h2, h4, h6, h8⟩, h9, h10, h11, h12⟩
theorem law_I {y1 y2 idx1 idx2 k : Nat} {off : Int} (C : Lc p s m c b Ls xs) (hl : lv_has ls 8 [(0, .ref b), (1, .ref q1), (2, .ref q2), (3, .ref oa), (4, .int (nI i))]) (hB : Both D s H q1 q2 oa P M Q N xo) (hRel : Rel t P Q M N) (hS : va_S (AS s) s.heap H locs) (hcs : cells ≤ 601024 ∧ slots ≤ 7293034) (hi : i + 5 ≤ Ls) (hk : k ≤ 4) (hj : Jn t y1 y2 ((aV xs k (i + 1)).map iV)) (hlk : lnk y1 y2 idx1 idx2 k = true) (hret : rty y1 = some .int ∨ rty y1 = some .boolean) (hdec : caseI pc k idx1 idx2 off = true) (htg : ((pc + 1 + 6 * k + 3 + 1 + 6 * k + 3 : Nat) : Int) + off = ((1492 : Nat) : Int)) (h : ∀ (H' : Heap) (locs' : List Loc) (P' : PM) (M' : MM) (Q' : PM) (N' : MM), Both D s H' q1 q2 oa P' M' Q' N' xo → Rel (t + 1) P' Q' M' N' → va_S (AS s) s.heap H' locs' → W p l e room_1 s m #[Value.ref b] below meth c H' locs' cells slots QQ (F0 m 1492 ls [])) : W p l e room_1 s m #[Value.ref b] below meth c H locs cells slots QQ (F0 m pc ls []) := by
  obtain ⟨k1, k2, k3, k4, k5, k6⟩ := lnk_ok hlk
  unfold caseI at hdec
  simp only [Bool.and_eq_true, decide_eq_true_eq] at hdec
  obtain ⟨d1, d2, d3, d4, d5, d6, d7⟩ := hdec
  obtain ⟨v, P', M', Q', N', e1, e2, hR⟩ := hj P Q M N hRel 200 (by omega)
  obtain ⟨x, hx⟩ := (Ev_rt e1).1 hret
  obtain rfl := Option.some.inj hx
  have hl0 := lv_at hl 0 rfl
  have hl4 := lv_at hl 4 rfl
  have hC := C
  obtain ⟨G, hX, hbl, hL⟩ := C
  obtain ⟨gx, gb, _⟩ := id G
  refine lv_aload_n gx gb d1 rfl (lv_at hl 1 rfl) ?_
  refine l_args hC hS hl0 hl4 k 1 _ _ (by omega) d2 ?_
  refine lw_call1 (d := 200) G hB k1 k5 d3 (by rw [aV_len, k3]) (by decide) e1 (by decide) hcs hS hl.1 (fun v hv o w => by cases hv; cases w) (fun H1 locs1 hB1 hS1 => ?_)
  show W p l e room_1 s m #[Value.ref b] below meth c H1 locs1 cells slots QQ (F0 m _ ls [.int (Int32.ofInt x)])
  refine lv_aload_n gx gb d4 rfl (lv_at hl 2 rfl) ?_
  refine l_args hC hS1 hl0 hl4 k 1 _ _ (by omega) d5 ?_
  refine lw_call2 (d := 200) G hB1 k2 k6 d6 (by rw [aV_len, k4]) (Nat.le_of_ble_eq_true rfl) e2 (by decide) hcs hS1 hl.1 (fun v hv o w => by cases hv; cases w) (fun H2 locs2 hB2 hS2 => ?_)
  show W p l e room_1 s m #[Value.ref b] below meth c H2 locs2 cells slots QQ (F0 m _ ls [.int (Int32.ofInt x), .int (Int32.ofInt x)])
  refine lv_icmp_eq (tgt := 1492) gx gb d7 htg (fun _ => ?_) (fun w => absurd rfl w)
  exact h H2 locs2 P' M' Q' N' hB2 hR hS2
theorem law_L {y1 y2 idx1 idx2 k : Nat} {off : Int} (C : Lc p s m c b Ls xs) (hl : lv_has ls 8 [(0, .ref b), (1, .ref q1), (2, .ref q2), (3, .ref oa), (4, .int (nI i))]) (hB : Both D s H q1 q2 oa P M Q N xo) (hRel : Rel t P Q M N) (hS : va_S (AS s) s.heap H locs) (hcs : cells ≤ 601024 ∧ slots ≤ 7293034) (hi : i + 5 ≤ Ls) (hk : k ≤ 4) (hj : Jn t y1 y2 ((aV xs k (i + 1)).map iV)) (hlk : lnk y1 y2 idx1 idx2 k = true) (hret : rty y1 = some .long) (hdec : caseL pc k idx1 idx2 off = true) (htg : ((pc + 1 + 6 * k + 3 + 1 + 6 * k + 3 + 1 : Nat) : Int) + off = ((1492 : Nat) : Int)) (h : ∀ (H' : Heap) (locs' : List Loc) (P' : PM) (M' : MM) (Q' : PM) (N' : MM), Both D s H' q1 q2 oa P' M' Q' N' xo → Rel (t + 1) P' Q' M' N' → va_S (AS s) s.heap H' locs' → W p l e room_1 s m #[Value.ref b] below meth c H' locs' cells slots QQ (F0 m 1492 ls [])) : W p l e room_1 s m #[Value.ref b] below meth c H locs cells slots QQ (F0 m pc ls []) := by
  obtain ⟨k1, k2, k3, k4, k5, k6⟩ := lnk_ok hlk
  unfold caseL at hdec
  simp only [Bool.and_eq_true, decide_eq_true_eq] at hdec
  obtain ⟨d1, d2, d3, d4, d5, d6, d7, d8⟩ := hdec
  obtain ⟨v, P', M', Q', N', e1, e2, hR⟩ := hj P Q M N hRel 200 (by omega)
  obtain ⟨x, hx⟩ := (Ev_rt e1).2 hret
  obtain rfl := Option.some.inj hx
  have hl0 := lv_at hl 0 rfl
  have hl4 := lv_at hl 4 rfl
  have hC := C
  obtain ⟨G, hX, hbl, hL⟩ := C
  obtain ⟨gx, gb, _⟩ := id G
  refine lv_aload_n gx gb d1 rfl (lv_at hl 1 rfl) ?_
  refine l_args hC hS hl0 hl4 k 1 _ _ (by omega) d2 ?_
  refine lw_call1 (d := 200) G hB k1 k5 d3 (by rw [aV_len, k3]) (by decide) e1 (by decide) hcs hS hl.1 (fun v hv o w => by cases hv; cases w) (fun H1 locs1 hB1 hS1 => ?_)
  show W p l e room_1 s m #[Value.ref b] below meth c H1 locs1 cells slots QQ (F0 m _ ls [.long (Int64.ofInt x)])
  refine lv_aload_n gx gb d4 rfl (lv_at hl 2 rfl) ?_
  refine l_args hC hS1 hl0 hl4 k 1 _ _ (by omega) d5 ?_
  refine lw_call2 (d := 200) G hB1 k2 k6 d6 (by rw [aV_len, k4]) (Nat.le_of_ble_eq_true rfl) e2 (by decide) hcs hS1 hl.1 (fun v hv o w => by cases hv; cases w) (fun H2 locs2 hB2 hS2 => ?_)
  show W p l e room_1 s m #[Value.ref b] below meth c H2 locs2 cells slots QQ (F0 m _ ls [.long (Int64.ofInt x), .long (Int64.ofInt x)])
  refine W.lcmp gx gb d7 ?_
  rw [lg_cmp_self]
  refine lv_if_eq (tgt := 1492) gx gb d8 htg (fun _ => ?_) (fun w => absurd rfl w)
  exact h H2 locs2 P' M' Q' N' hB2 hR hS2
end
