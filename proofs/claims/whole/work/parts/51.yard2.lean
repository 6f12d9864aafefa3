/-! things, and a whole rule: the automaton reads as the grammar does -/
section
variable {T : Nat → Int} {L : Nat}
theorem ltr_lo {x : Int} (h : loF x ≠ -1) : ltr x = (loF x).toNat ∧ bnd x = 0 ∧ 100 < x ∧ x < 120 := by
  have hx : x = 107 ∨ x = 114 ∨ x = 111 ∨ x = 119 ∨ x = 110 ∨ x = 105 := by
    unfold loF at h
    by_cases h1 : x = 107
    · exact Or.inl h1
    by_cases h2 : x = 114
    · exact Or.inr (Or.inl h2)
    by_cases h3 : x = 111
    · exact Or.inr (Or.inr (Or.inl h3))
    by_cases h4 : x = 119
    · exact Or.inr (Or.inr (Or.inr (Or.inl h4)))
    by_cases h5 : x = 110
    · exact Or.inr (Or.inr (Or.inr (Or.inr (Or.inl h5))))
    by_cases h6 : x = 105
    · exact Or.inr (Or.inr (Or.inr (Or.inr (Or.inr h6))))
    rw [if_neg h1, if_neg h2, if_neg h3, if_neg h4, if_neg h5, if_neg h6] at h
    exact absurd rfl h
  rcases hx with rfl | rfl | rfl | rfl | rfl | rfl <;> decide
theorem xop_num {e : Nat → Int} {x : Int} {st : List Int} (h : 0 ≤ x) : xop e st x = some (x :: st) := by
  unfold xop
  rw [if_neg (by omega), if_neg (by omega), if_pos h]
theorem xop_let {e : Nat → Int} {x : Int} {st : List Int} (h : loF x ≠ -1) : xop e st (-x) = some (e (loF x).toNat :: st) := by
  obtain ⟨h1, h2, h3, h4⟩ := ltr_lo h
  unfold xop
  rw [if_neg (by omega), if_neg (by rw [Int.neg_neg]; omega), if_neg (by omega), Int.neg_neg, h1]
theorem dig_not {x : Int} (h : isDig x = true) : x ≠ 45 ∧ x ≠ 40 ∧ 48 ≤ x ∧ x ≤ 57 := by
  unfold isDig at h
  have : 48 ≤ x ∧ x ≤ 57 := by simpa using h
  omega
theorem take_num {s : YS} {ch : Int} (hw : s.2.2.2.2.2 = true) (h : isDig ch = true) : yTake s ch = some (s.1 ++ [ch - 48], s.2.1, s.2.2.1, s.2.2.2.1, 1, false) := by
  obtain ⟨code, wait, cm, op, dg, wn⟩ := s
  have := dig_not h
  unfold yTake
  rw [if_pos hw]
  unfold yThing
  dsimp only
  rw [if_neg this.1, if_neg this.2.1, if_pos h]
theorem take_dig {s : YS} {ch : Int} {c : List Int} {x : Int} (hw : s.2.2.2.2.2 = false) (h : isDig ch = true) (hd : s.2.2.2.2.1 = 1 ∨ s.2.2.2.2.1 = 2) (hc : s.1 = c ++ [x]) : yTake s ch = some (c ++ [x * 10 + ch - 48], s.2.1, s.2.2.1, s.2.2.2.1, s.2.2.2.2.1 + 1, false) := by
  obtain ⟨code, wait, cm, op, dg, wn⟩ := s
  dsimp only at hd hc
  subst hc
  unfold yTake
  rw [if_neg (by rw [hw]; decide)]
  unfold yBehind
  dsimp only
  rw [if_pos h, if_neg (by
    intro w
    rcases w with w | w | w
    · omega
    · omega
    · simp at w)]
  simp
theorem xs_1 {e : Nat → Int} {x : Int} {st : List Int} (h : 0 ≤ x) : xs e ([x] ++ List.map (fun x => -x) []) st = some (x :: st) := by
  show (xop e st x).bind (xs e []) = _
  rw [xop_num h]; rfl
theorem pnd_nil {b : Int} : pnd b [] := fun x hx => by cases hx
theorem YNum {p : Nat} {s : YS} (hw : s.2.2.2.2.2 = true) (hd : isDig (hrF T L p) = true) {v : GV} {p' : Nat} (h : gN T L p = Sum.inr (v, p')) : ∃ s', yTo T L p s p' s' ∧ Got 4 s s' v ∧ nod T L p' s' ∧ cmS s s' := by
  have h0 := dig_lt hd
  have e0 := hr_T (T := T) h0
  rw [e0] at hd
  have r0 := dig_not hd
  have t0 := yTo_s (s := s) h0 (take_num hw hd)
  unfold gN at h
  by_cases g1 : isDig (hrF T L (p + 1)) = true
  · rw [if_pos g1] at h
    have h1 := dig_lt g1
    have e1 := hr_T (T := T) h1
    have g1' := g1
    rw [e1] at g1'
    have r1 := dig_not g1'
    have t1 := yTo_s (s := (s.1 ++ [T p - 48], s.2.1, s.2.2.1, s.2.2.2.1, 1, false)) h1 (take_dig (c := s.1) (x := T p - 48) rfl g1' (Or.inl rfl) rfl)
    by_cases g2 : isDig (hrF T L (p + 2)) = true
    · rw [if_pos g2] at h
      simp only [Sum.inr.injEq, Prod.mk.injEq] at h
      obtain ⟨rfl, rfl⟩ := h
      have h2 := dig_lt g2
      have e2 := hr_T (T := T) h2
      have g2' := g2
      rw [e2] at g2'
      have r2 := dig_not g2'
      have t2 := yTo_s (T := T) (L := L) (p := p + 1 + 1) (s := (s.1 ++ [(T p - 48) * 10 + T (p + 1) - 48], s.2.1, s.2.2.1, s.2.2.2.1, 1 + 1, false)) h2 (take_dig (c := s.1) (x := (T p - 48) * 10 + T (p + 1) - 48) rfl g2' (Or.inr rfl) rfl)
      refine ⟨_, yTo_t (yTo_t t0 t1) t2, ⟨[((T p - 48) * 10 + T (p + 1) - 48) * 10 + T (p + 1 + 1) - 48], [], rfl, rfl, pnd_nil, fun e st => ?_, rfl, rfl⟩, fun _ => Or.inr rfl, fun _ _ => rfl⟩
      have r2' : T (p + 1 + 1) = T (p + 2) := rfl
      rw [xs_1 (by omega)]
      congr 2
      show _ = 100 * (T p - 48) + 10 * (T (p + 1) - 48) + (T (p + 2) - 48)
      omega
    · rw [if_neg g2] at h
      simp only [Sum.inr.injEq, Prod.mk.injEq] at h
      obtain ⟨rfl, rfl⟩ := h
      refine ⟨_, yTo_t t0 t1, ⟨[(T p - 48) * 10 + T (p + 1) - 48], [], rfl, rfl, pnd_nil, fun e st => ?_, rfl, rfl⟩, fun q => absurd q g2, fun _ _ => rfl⟩
      rw [xs_1 (by omega)]
      congr 2
      show _ = 10 * (T p - 48) + (T (p + 1) - 48)
      omega
  · rw [if_neg g1] at h
    simp only [Sum.inr.injEq, Prod.mk.injEq] at h
    obtain ⟨rfl, rfl⟩ := h
    exact ⟨_, t0, ⟨[T p - 48], [], rfl, rfl, pnd_nil, fun e st => xs_1 (by omega), rfl, rfl⟩, fun q => absurd q g1, fun _ _ => rfl⟩
theorem gN_ok {p w : Nat} : gN T L p ≠ Sum.inl w := by
  unfold gN
  split
  · split <;> simp
  · simp
def EdP (T : Nat → Int) (L : Nat) (p : Nat) : Prop := (True ∧ isMul (hrF T L p) = false) ∧ isAdd (hrF T L p) = false
/-- the next sign stops the automaton -/
theorem stop_at {p : Nat} {s : YS} (hw : s.2.2.2.2.2 = false) (hn : nod T L p s) (hE : EdP T L p) (hc : isCmp (hrF T L p) = true → s.2.2.1 s.2.2.2.1 = true) (h41 : hrF T L p = 41 → s.2.2.2.1 = 0) (hp : p < L) : yTake s (T p) = none := by
  have e := hr_T (T := T) hp
  unfold nod at hn
  unfold EdP at hE
  rw [e] at hn hE hc h41
  refine stk_no hw hn h41 ?_
  rcases bnd_c (T p) with q | q | q | q
  · exact Or.inl q
  · rw [hE.1.2] at q; cases q
  · rw [hE.2] at q; cases q
  · exact Or.inr ⟨bnd_cmp q, hc q⟩
theorem YThing : ∀ (k deep p : Nat) (s : YS), p ≤ L → L - p < k → deep ≤ 4 → s.2.2.2.2.2 = true → s.2.2.2.1 = deep → (∀ w, gT T L k deep p = Sum.inl w → yBad T L p s w) ∧ (∀ v p', gT T L k deep p = Sum.inr (v, p') → ∃ s', yTo T L p s p' s' ∧ Got 4 s s' v ∧ nod T L p' s' ∧ cmS s s') := by
  intro k
  induction k with
  | zero => intro deep p s h1 h2; omega
  | succ k ih =>
    intro deep p s hpL hk hd4 hw hdp
    unfold gT
    by_cases c45 : hrF T L p = 45
    · rw [if_pos c45]
      have hpl : p < L := hrF_lt (T := T) (by rw [c45]; decide)
      have eT := hr_T (T := T) hpl
      have ht : yTake s (T p) = some (s.1, 126 :: s.2.1, s.2.2.1, s.2.2.2.1, s.2.2.2.2.1, true) := by
        rw [← eT, c45]
        unfold yTake
        rw [if_pos hw]
        rfl
      have hto := yTo_s hpl ht
      obtain ⟨k1, k2⟩ := ih deep (p + 1) (s.1, 126 :: s.2.1, s.2.2.1, s.2.2.2.1, s.2.2.2.2.1, true) (by omega) (by omega) hd4 rfl hdp
      constructor
      · intro w hwl
        cases hx : gT T L k deep (p + 1) with
        | inl w' =>
          rw [hx] at hwl
          obtain rfl : w' = w := Sum.inl.inj hwl
          exact yBad_to hto (k1 w' hx)
        | inr x => rw [hx] at hwl; cases hwl
      · intro v' p2 hwl
        obtain ⟨v, p', hx, hwl⟩ := gB_r hwl
        simp only [Sum.inr.injEq, Prod.mk.injEq] at hwl
        obtain ⟨rfl, rfl⟩ := hwl
        obtain ⟨s3, u1, ⟨c', Pn, a1, a2, a3, a4, a5, a6⟩, u3, u4⟩ := k2 v p' hx
        refine ⟨s3, yTo_t hto u1, ⟨c', Pn ++ [126], a1, by rw [a2]; simp, fun x hx => ?_, fun e st => ?_, a5, a6⟩, u3, u4⟩
        · rcases List.mem_append.mp hx with q | q
          · exact a3 x q
          · left; simpa using q
        · have hh : c' ++ List.map (fun x => -x) (Pn ++ [126]) = (c' ++ List.map (fun x => -x) Pn) ++ [-126] := by simp
          rw [hh, xs_app, a4 e st]
          rfl
    rw [if_neg c45]
    by_cases c40 : hrF T L p = 40 ∧ deep < 4
    · rw [if_pos c40]
      have hpl : p < L := hrF_lt (T := T) (by rw [c40.1]; decide)
      have eT := hr_T (T := T) hpl
      have ht : yTake s (T p) = some (s.1, 40 :: s.2.1, (fun j => if j = s.2.2.2.1 + 1 then false else s.2.2.1 j), s.2.2.2.1 + 1, s.2.2.2.2.1, true) := by
        rw [← eT, c40.1]
        unfold yTake
        rw [if_pos hw]
        unfold yThing
        dsimp only
        rw [if_neg (by decide), if_pos rfl, if_neg (by rw [hdp]; omega)]
      have hto := yTo_s hpl ht
      have hth : Fwd L (gT T L k (deep + 1)) := gT_f k (deep + 1)
      have hT0 : YTh T L (p + 1) (deep + 1) (3 + 1) (fun _ => True) (gT T L k (deep + 1)) := by
        intro q s' h1 h2 h3 h4 _
        obtain ⟨k1, k2⟩ := ih (deep + 1) q s' h2 (by omega) (by omega) h3 h4
        refine ⟨k1, fun v p' hx => ?_⟩
        obtain ⟨s3, u1, u2, u3, u4⟩ := k2 v p' hx
        exact ⟨s3, u1, u2, u3, u4, trivial⟩
      have hP0 := YLev (op := isMul) hth (by omega) (fun x hx => bnd_mul hx) hT0
      have hS0 := YLev (b := 2) (op := isAdd) (gP_f hth) (by omega) (fun x hx => bnd_add hx) hP0
      obtain ⟨k1, k2⟩ := YHeld (gS_f hth) hS0 (p + 1) (s.1, 40 :: s.2.1, (fun j => if j = s.2.2.2.1 + 1 then false else s.2.2.1 j), s.2.2.2.1 + 1, s.2.2.2.2.1, true) (Nat.le_refl _) (by omega) rfl (by rw [hdp]) (fun x t e => by
        obtain ⟨rfl, _⟩ := List.cons.inj e
        decide) (by show (if deep + 1 = s.2.2.2.1 + 1 then false else _) = false; rw [if_pos (by rw [hdp])])
      constructor
      · intro w hwl
        cases hx : gH T L (gT T L k (deep + 1)) (p + 1) with
        | inl w' =>
          rw [hx] at hwl
          obtain rfl : w' = w := Sum.inl.inj hwl
          exact yBad_to hto (k1 w' hx)
        | inr x =>
          obtain ⟨v, p2⟩ := x
          rw [hx] at hwl
          have hwl2 : (if hrF T L p2 = 41 then (Sum.inr (v, p2 + 1) : GR) else Sum.inl p2) = Sum.inl w := hwl
          by_cases c41 : hrF T L p2 = 41
          · rw [if_pos c41] at hwl2; cases hwl2
          · rw [if_neg c41] at hwl2
            obtain rfl : p2 = w := Sum.inl.inj hwl2
            obtain ⟨s', u1, u2, u3, u4, u5, u6⟩ := k2 v p2 hx
            have hw' : s'.2.2.2.2.2 = false := by obtain ⟨_, _, _, _, _, _, _, q⟩ := u2; exact q
            have hop' : s'.2.2.2.1 = deep + 1 := by obtain ⟨_, _, _, _, _, _, q, _⟩ := u2; rw [q]; show s.2.2.2.1 + 1 = _; rw [hdp]
            refine yBad_to (yTo_t hto u1) ?_
            by_cases hL : p2 < L
            · exact yBad_0 hL (stop_at hw' u3 u5 (by rw [hop']; exact u6) (fun q => absurd q c41) hL)
            · have e : p2 = L := by have := u1.2.1; omega
              rw [e]
              exact yBad_e (Or.inr (by omega))
      · intro v' p3 hwl
        obtain ⟨v, p2, hx, hwl⟩ := gB_r hwl
        by_cases c41 : hrF T L p2 = 41
        case neg => rw [if_neg c41] at hwl; cases hwl
        rw [if_pos c41] at hwl
        simp only [Sum.inr.injEq, Prod.mk.injEq] at hwl
        obtain ⟨rfl, rfl⟩ := hwl
        obtain ⟨s', u1, ⟨c', Pn, a1, a2, a3, a4, a5, a6⟩, u3, u4, u5, u6⟩ := k2 v p2 hx
        have hL : p2 < L := hrF_lt (T := T) (by rw [c41]; decide)
        have eT2 := hr_T (T := T) hL
        obtain ⟨code, wait, cm, op, dg, wn⟩ := s'
        dsimp only at a1 a2 a5 a6 u4 u6
        subst a6
        have hop : op = deep + 1 := by rw [a5, hdp]
        have hrel : yRel 1 code wait = (s.1 ++ c' ++ Pn.map (fun x => -x), 40 :: s.2.1) := by
          rw [a1, a2, yRel_p _ _ _ a3]
          exact yRel_s (fun x t e => by obtain ⟨rfl, _⟩ := List.cons.inj e; decide)
        have ht2 : yTake (code, wait, cm, op, dg, false) (T p2) = some (s.1 ++ c' ++ Pn.map (fun x => -x), s.2.1, cm, op - 1, 0, false) := by
          rw [← eT2, c41]
          unfold yTake
          rw [if_neg Bool.false_ne_true]
          unfold yBehind
          dsimp only
          rw [if_neg (by decide), if_pos rfl, if_neg (by omega), hrel]
          rfl
        refine ⟨_, yTo_t (yTo_t hto u1) (yTo_s hL ht2), ⟨c' ++ Pn.map (fun x => -x), [], by simp, rfl, pnd_nil, fun e st => by rw [List.map_nil, List.append_nil]; exact a4 e st, ?_, rfl⟩, fun _ => Or.inl rfl, fun j hj => ?_⟩
        · show op - 1 = _
          rw [hop, hdp]; rfl
        · show cm j = _
          rw [u4 j (by omega), if_neg (by omega)]
    rw [if_neg c40]
    by_cases cd : isDig (hrF T L p) = true
    · rw [if_pos cd]
      exact ⟨fun w h => absurd h gN_ok, fun v p' h => YNum hw cd h⟩
    rw [if_neg cd]
    by_cases cl : loF (hrF T L p) = -1
    · rw [if_pos cl]
      refine ⟨fun w h => ?_, fun v p' h => by cases h⟩
      obtain rfl : p = w := Sum.inl.inj h
      by_cases hL : p < L
      · have eT := hr_T (T := T) hL
        refine yBad_0 hL ?_
        rw [← eT]
        unfold yTake
        rw [if_pos hw]
        obtain ⟨code, wait, cm, op, dg, wn⟩ := s
        unfold yThing
        dsimp only at hdp ⊢
        rw [if_neg c45]
        by_cases c4 : hrF T L p = 40
        · rw [if_pos c4, if_pos (by have := fun h => c40 ⟨c4, h⟩; omega)]
        · rw [if_neg c4, if_neg cd, if_neg (fun h => h cl)]
      · have e : p = L := by omega
        rw [e]
        exact yBad_e (Or.inl hw)
    · rw [if_neg cl]
      refine ⟨fun w h => (by cases h), fun v p' h => ?_⟩
      simp only [Sum.inr.injEq, Prod.mk.injEq] at h
      obtain ⟨rfl, rfl⟩ := h
      have hL : p < L := hrF_lt (T := T) (fun e => cl (by rw [e]; decide))
      have eT := hr_T (T := T) hL
      have hlt := ltr_lo cl
      have ht : yTake s (T p) = some (s.1 ++ [-(hrF T L p)], s.2.1, s.2.2.1, s.2.2.2.1, 0, false) := by
        rw [← eT]
        unfold yTake
        rw [if_pos hw]
        unfold yThing
        dsimp only
        rw [if_neg c45, if_neg (by omega), if_neg cd, if_pos cl]
      refine ⟨_, yTo_s hL ht, ⟨[-(hrF T L p)], [], rfl, rfl, pnd_nil, fun e st => ?_, rfl, rfl⟩, fun _ => Or.inl rfl, fun _ _ => rfl⟩
      show (xop e st (-(hrF T L p))).bind (xs e []) = _
      rw [xop_let cl]; rfl
/-- the plain rule -/
def plainV : GV := fun e => jnd 42 (jnd 42 (e 1) (jnd 45 1 (e 2))) (jnd 43 1 (e 0))
/-- a text of ln signs read as a rule -/
def gRead (T : Nat → Int) (ln : Nat) : Nat ⊕ GV := if ln = 0 then Sum.inr plainV else match gH T (min ln 40) (gT T (min ln 40) (min ln 40 + 1) 0) 0 with
  | Sum.inl w => Sum.inl w
  | Sum.inr (v, p) => if p < ln then Sum.inl p else Sum.inr v
theorem yTop {ln : Nat} (h0 : 0 < ln) (cm : Nat → Bool) (hcm : cm 0 = false) (dg : Nat) : (∀ w, gRead T ln = Sum.inl w → yRun T (min ln 40) (min ln 40) 0 ([], [], cm, 0, dg, true) = Sum.inl w ∨ (w = min ln 40 ∧ ∃ s' : YS, yRun T (min ln 40) (min ln 40) 0 ([], [], cm, 0, dg, true) = Sum.inr s' ∧ (min ln 40 < ln ∨ s'.2.2.2.2.2 = true ∨ 0 < s'.2.2.2.1))) ∧ (∀ V, gRead T ln = Sum.inr V → ln = min ln 40 ∧ ∃ s' : YS, yRun T (min ln 40) (min ln 40) 0 ([], [], cm, 0, dg, true) = Sum.inr s' ∧ s'.2.2.2.2.2 = false ∧ s'.2.2.2.1 = 0 ∧ ∃ c, yRel 1 s'.1 s'.2.1 = (c, []) ∧ ∀ e, xs e c [] = some [V e]) := by
  have hdef : gRead T ln = match gH T (min ln 40) (gT T (min ln 40) (min ln 40 + 1) 0) 0 with
    | Sum.inl w => Sum.inl w
    | Sum.inr (v, p) => if p < ln then Sum.inl p else Sum.inr v := by unfold gRead; rw [if_neg (by omega)]
  rw [hdef]
  have hLln : min ln 40 ≤ ln := Nat.min_le_left _ _
  generalize min ln 40 = L at hLln ⊢
  have hth : Fwd L (gT T L (L + 1) 0) := gT_f (L + 1) 0
  have hT0 : YTh T L 0 0 (3 + 1) (fun _ => True) (gT T L (L + 1) 0) := by
    intro q s' h1 h2 h3 h4 _
    obtain ⟨k1, k2⟩ := YThing (L + 1) 0 q s' h2 (by omega) (by omega) h3 h4
    refine ⟨k1, fun v p' hx => ?_⟩
    obtain ⟨s3, u1, u2, u3, u4⟩ := k2 v p' hx
    exact ⟨s3, u1, u2, u3, u4, trivial⟩
  have hP0 := YLev (op := isMul) hth (by omega) (fun x hx => bnd_mul hx) hT0
  have hS0 := YLev (b := 2) (op := isAdd) (gP_f hth) (by omega) (fun x hx => bnd_add hx) hP0
  obtain ⟨k1, k2⟩ := YHeld (gS_f hth) hS0 0 ([], [], cm, 0, dg, true) (Nat.le_refl _) (Nat.zero_le _) rfl rfl (fun x t e => by cases e) hcm
  have bad : ∀ {s : YS} {w : Nat}, yBad T L 0 s w → yRun T L L 0 s = Sum.inl w ∨ (w = L ∧ ∃ s' : YS, yRun T L L 0 s = Sum.inr s' ∧ (L < ln ∨ s'.2.2.2.2.2 = true ∨ 0 < s'.2.2.2.1)) := by
    intro s w h
    rcases h with h | ⟨h, s', h1, h2⟩
    · exact Or.inl h
    · exact Or.inr ⟨h, s', h1, Or.inr h2⟩
  cases hx : gH T L (gT T L (L + 1) 0) 0 with
  | inl w' =>
    refine ⟨fun w hw => ?_, fun V hV => by cases hV⟩
    obtain rfl : w' = w := Sum.inl.inj hw
    exact bad (k1 w' hx)
  | inr x =>
    obtain ⟨v, p⟩ := x
    obtain ⟨s', u1, u2, u3, u4, u5, u6⟩ := k2 v p hx
    have hw' : s'.2.2.2.2.2 = false := by obtain ⟨_, _, _, _, _, _, _, q⟩ := u2; exact q
    have hop' : s'.2.2.2.1 = 0 := by obtain ⟨_, _, _, _, _, _, q, _⟩ := u2; exact q
    have hfin : p = L → yRun T L L 0 ([], [], cm, 0, dg, true) = Sum.inr s' := by
      intro e
      have := u1.2.2
      rw [e, Nat.sub_self, Nat.sub_zero] at this
      exact this
    show (∀ w, (if p < ln then (Sum.inl p : Nat ⊕ GV) else Sum.inr v) = Sum.inl w → _) ∧ (∀ V, (if p < ln then (Sum.inl p : Nat ⊕ GV) else Sum.inr v) = Sum.inr V → _)
    by_cases hp : p < ln
    · rw [if_pos hp]
      refine ⟨fun w hw => ?_, fun V hV => by cases hV⟩
      obtain rfl : p = w := Sum.inl.inj hw
      by_cases hL : p < L
      · exact bad (yBad_to u1 (yBad_0 hL (stop_at hw' u3 u5 (by rw [hop']; exact u6) (fun _ => hop') hL)))
      · have e : p = L := by have := u1.2.1; omega
        exact Or.inr ⟨e, s', hfin e, Or.inl (by omega)⟩
    · rw [if_neg hp]
      refine ⟨fun w hw => (by cases hw), fun V hV => ?_⟩
      obtain rfl : v = V := Sum.inr.inj hV
      have e : p = L := by have := u1.2.1; omega
      obtain ⟨c', Pn, a1, a2, a3, a4, a5, a6⟩ := u2
      refine ⟨by have := u1.2.1; omega, s', hfin e, hw', hop', [] ++ c' ++ Pn.map (fun x => -x), ?_, fun e => ?_⟩
      · rw [a1, a2, yRel_p _ _ _ a3]
        rfl
      · have := a4 e []
        simpa using this
end
