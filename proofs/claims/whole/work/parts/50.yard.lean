/-! the class's reading of rules, pure; it reads as the grammar says -/
abbrev YS : Type := List Int × List Int × (Nat → Bool) × Nat × Nat × Bool
def yRel (b : Int) : List Int → List Int → List Int × List Int
  | code, [] => (code, [])
  | code, s :: w => if s ≠ 126 ∧ bnd s < b then (code, s :: w) else yRel b (code ++ [-s]) w
def yThing (s : YS) (ch : Int) : Option YS := match s with
  | (code, wait, cm, op, _, _) => if ch = 45 then some (code, 126 :: wait, cm, op, s.2.2.2.2.1, true) else if ch = 40 then (if 4 ≤ op then none else some (code, 40 :: wait, (fun j => if j = op + 1 then false else cm j), op + 1, s.2.2.2.2.1, true)) else if isDig ch = true then some (code ++ [ch - 48], wait, cm, op, 1, false) else if loF ch ≠ -1 then some (code ++ [-ch], wait, cm, op, 0, false) else none
def yBehind (s : YS) (ch : Int) : Option YS := match s with
  | (code, wait, cm, op, dg, _) => if isDig ch = true then (if dg = 0 ∨ dg = 3 ∨ code = [] then none else some (code.dropLast ++ [code.getLastD 0 * 10 + ch - 48], wait, cm, op, dg + 1, false)) else if ch = 41 then (if op = 0 then none else some ((yRel 1 code wait).1, (yRel 1 code wait).2.tail, cm, op - 1, 0, false)) else if bnd ch = 0 ∨ (bnd ch = 1 ∧ cm op = true) then none else some ((yRel (bnd ch) code wait).1, ch :: (yRel (bnd ch) code wait).2, (fun j => if j = op then (cm op || decide (bnd ch = 1)) else cm j), op, 0, true)
def yTake (s : YS) (ch : Int) : Option YS := if s.2.2.2.2.2 = true then yThing s ch else yBehind s ch
/-- from the place p on: either it stops at a place, or it comes to the end in a state -/
def yRun (T : Nat → Int) (L : Nat) : Nat → Nat → YS → Nat ⊕ YS
  | 0, _, s => Sum.inr s
  | k + 1, p, s => if p < L then (match yTake s (T p) with | none => Sum.inl p | some s' => yRun T L k (p + 1) s') else Sum.inr s
/-- the run from p on goes as the run from p' on -/
def yTo (T : Nat → Int) (L p : Nat) (s : YS) (p' : Nat) (s' : YS) : Prop := p ≤ p' ∧ p' ≤ L ∧ yRun T L (L - p) p s = yRun T L (L - p') p' s'
/-- the whole reading fails at w -/
def yBad (T : Nat → Int) (L p : Nat) (s : YS) (w : Nat) : Prop := yRun T L (L - p) p s = Sum.inl w ∨ (w = L ∧ ∃ s', yRun T L (L - p) p s = Sum.inr s' ∧ (s'.2.2.2.2.2 = true ∨ 0 < s'.2.2.2.1))
section
variable {T : Nat → Int} {L : Nat}
theorem yTo_r {p : Nat} {s : YS} (h : p ≤ L) : yTo T L p s p s := ⟨Nat.le_refl _, h, rfl⟩
theorem yTo_t {p p1 p2 : Nat} {s s1 s2 : YS} (h : yTo T L p s p1 s1) (h2 : yTo T L p1 s1 p2 s2) : yTo T L p s p2 s2 := ⟨Nat.le_trans h.1 h2.1, h2.2.1, h.2.2.trans h2.2.2⟩
theorem yTo_s {p : Nat} {s s1 : YS} (hp : p < L) (h : yTake s (T p) = some s1) : yTo T L p s (p + 1) s1 := by
  refine ⟨by omega, by omega, ?_⟩
  obtain ⟨k, hk⟩ : ∃ k, L - p = k + 1 := ⟨L - p - 1, by omega⟩
  rw [hk, show L - (p + 1) = k by omega]
  show (if p < L then _ else _) = _
  rw [if_pos hp, h]
theorem yBad_to {p p1 w : Nat} {s s1 : YS} (h : yTo T L p s p1 s1) (h2 : yBad T L p1 s1 w) : yBad T L p s w := by
  unfold yBad at h2 ⊢
  rw [h.2.2]; exact h2
theorem yBad_0 {p : Nat} {s : YS} (hp : p < L) (h : yTake s (T p) = none) : yBad T L p s p := by
  left
  obtain ⟨k, hk⟩ : ∃ k, L - p = k + 1 := ⟨L - p - 1, by omega⟩
  rw [hk]
  show (if p < L then _ else _) = _
  rw [if_pos hp, h]
theorem yBad_e {s : YS} (h : s.2.2.2.2.2 = true ∨ 0 < s.2.2.2.1) : yBad T L L s L := by
  right
  refine ⟨rfl, s, ?_, h⟩
  rw [Nat.sub_self]; rfl
/-- code run on a stack of things -/
def xs (e : Nat → Int) : List Int → List Int → Option (List Int)
  | [], st => some st
  | o :: c, st => (xop e st o).bind (xs e c)
theorem xs_app {e : Nat → Int} : ∀ (a b st : List Int), xs e (a ++ b) st = (xs e a st).bind (xs e b)
  | [], b, st => rfl
  | o :: a, b, st => by
    show (xop e st o).bind (xs e (a ++ b)) = ((xop e st o).bind (xs e a)).bind (xs e b)
    cases xop e st o with
    | none => rfl
    | some s => exact xs_app a b s
/-- what stands waiting that binds at least b -/
def pnd (b : Int) (w : List Int) : Prop := ∀ x, x ∈ w → x = 126 ∨ (b ≤ bnd x ∧ 0 < bnd x)
theorem yRel_p {b : Int} : ∀ (Pn code w : List Int), pnd b Pn → yRel b code (Pn ++ w) = yRel b (code ++ Pn.map (fun x => -x)) w
  | [], code, w, _ => by simp
  | x :: Pn, code, w, h => by
    have hx := h x (by simp)
    show (if x ≠ 126 ∧ bnd x < b then (code, x :: (Pn ++ w)) else yRel b (code ++ [-x]) (Pn ++ w)) = _
    rw [if_neg (by omega), yRel_p Pn _ _ (fun y hy => h y (by simp [hy]))]
    simp
/-- the stack below doesn't give way to b -/
def stp9 (b : Int) (w : List Int) : Prop := ∀ x t, w = x :: t → x ≠ 126 ∧ bnd x < b
theorem yRel_s {b : Int} {code w : List Int} (h : stp9 b w) : yRel b code w = (code, w) := by
  cases w with
  | nil => rfl
  | cons x t =>
    unfold yRel
    rw [if_pos (h x t rfl)]
theorem stp9_m {b b' : Int} {w : List Int} (h : stp9 b w) (hb : b ≤ b') : stp9 b' w := fun x t e => ⟨(h x t e).1, by have := (h x t e).2; omega⟩
/-- from s (waiting w, code c) to s' a value v was read, with things pending that bind at least b -/
def Got (b : Int) (s s' : YS) (v : GV) : Prop := ∃ (c' Pn : List Int), s'.1 = s.1 ++ c' ∧ s'.2.1 = Pn ++ s.2.1 ∧ pnd b Pn ∧ (∀ e st, xs e (c' ++ Pn.map (fun x => -x)) st = some (v e :: st)) ∧ s'.2.2.2.1 = s.2.2.2.1 ∧ s'.2.2.2.2.2 = false
theorem Got_m {b b' : Int} {s s' : YS} {v : GV} (h : Got b s s' v) (hb : b' ≤ b) : Got b' s s' v := by
  obtain ⟨c', Pn, h1, h2, h3, h4⟩ := h
  exact ⟨c', Pn, h1, h2, fun x hx => by have := h3 x hx; omega, h4⟩
/-- what may follow is no digit that a number would take -/
def nod (T : Nat → Int) (L p : Nat) (s : YS) : Prop := isDig (hrF T L p) = true → s.2.2.2.2.1 = 0 ∨ s.2.2.2.2.1 = 3
/-- compared so far at the levels below -/
def cmS (s s' : YS) : Prop := ∀ j, j ≤ s.2.2.2.1 → s'.2.2.1 j = s.2.2.1 j
/-- th reads things as the automaton does, from place p0 on, at the level deep -/
def YTh (T : Nat → Int) (L p0 deep : Nat) (b : Int) (E : Nat → Prop) (th : Nat → GR) : Prop := ∀ p (s : YS), p0 ≤ p → p ≤ L → s.2.2.2.2.2 = true → s.2.2.2.1 = deep → stp9 b s.2.1 → (∀ w, th p = Sum.inl w → yBad T L p s w) ∧ (∀ v p', th p = Sum.inr (v, p') → ∃ s', yTo T L p s p' s' ∧ Got b s s' v ∧ nod T L p' s' ∧ cmS s s' ∧ E p')
theorem xop_bin {e : Nat → Int} {x y s : Int} {st : List Int} (hs : 0 < bnd s) : xop e (y :: x :: st) (-s) = some (jnd s x y :: st) := by
  have h1 : s ≠ 126 := by intro h; rw [h] at hs; exact absurd hs (by decide)
  have h2 : 0 < s := by
    unfold bnd at hs
    split at hs
    · omega
    · split at hs
      · omega
      · split at hs
        · omega
        · omega
  unfold xop
  rw [if_neg (by omega), if_pos ⟨by omega, by rw [Int.neg_neg]; exact hs⟩, Int.neg_neg]
theorem xop_neg {e : Nat → Int} {x : Int} {st : List Int} : xop e (x :: st) (-126) = some (w32 (-x) :: st) := rfl
/-- an operator between two values -/
theorem Got_op {b : Int} {s s1 s2 s3 : YS} {v o : GV} {ch : Int} (h1 : Got b s s1 v) (hst : stp9 b s.2.1) (hb : bnd ch = b) (hb0 : 0 < b) (h2 : s2.1 = (yRel b s1.1 s1.2.1).1) (h2' : s2.2.1 = ch :: (yRel b s1.1 s1.2.1).2) (hop : s2.2.2.2.1 = s1.2.2.2.1) (h3 : Got (b + 1) s2 s3 o) : Got b s s3 (jn ch v o) := by
  obtain ⟨c1, P1, a1, a2, a3, a4, a5, a6⟩ := h1
  obtain ⟨c3, P3, d1, d2, d3, d4, d5, d6⟩ := h3
  rw [a1, a2, yRel_p _ _ _ a3, yRel_s hst] at h2 h2'
  refine ⟨c1 ++ P1.map (fun x => -x) ++ c3, P3 ++ [ch], ?_, ?_, fun x hx => ?_, fun e st => ?_, ?_, d6⟩
  · rw [d1, h2]; simp
  · rw [d2, h2']; simp
  · rcases List.mem_append.mp hx with q | q
    · have := d3 x q; omega
    · have : x = ch := by simpa using q
      subst this; right; omega
  · rw [show c1 ++ P1.map (fun x => -x) ++ c3 ++ (P3 ++ [ch]).map (fun x => -x) = (c1 ++ P1.map (fun x => -x)) ++ ((c3 ++ P3.map (fun x => -x)) ++ [-ch]) by simp, xs_app, a4 e st]
    show xs e ((c3 ++ P3.map (fun x => -x)) ++ [-ch]) (v e :: st) = _
    rw [xs_app, d4 e (v e :: st)]
    show (xop e (o e :: v e :: st) (-ch)).bind (xs e []) = _
    rw [xop_bin (by omega)]
    rfl
  · rw [d5, hop, a5]
theorem hr_T {p : Nat} (h : p < L) : hrF T L p = T p := if_pos h
theorem yTake_op {s : YS} {ch : Int} (hw : s.2.2.2.2.2 = false) (hb : 2 ≤ bnd ch) : ∃ s2 : YS, yTake s ch = some s2 ∧ s2.1 = (yRel (bnd ch) s.1 s.2.1).1 ∧ s2.2.1 = ch :: (yRel (bnd ch) s.1 s.2.1).2 ∧ s2.2.2.2.1 = s.2.2.2.1 ∧ s2.2.2.2.2.2 = true ∧ (∀ j, s2.2.2.1 j = s.2.2.1 j) := by
  obtain ⟨code, wait, cm, op, dg, wn⟩ := s
  have h1 : ¬ isDig ch = true := by
    unfold isDig; simp
    intro h
    unfold bnd at hb
    split at hb
    · omega
    split at hb
    · omega
    split at hb <;> omega
  have h2 : ¬ ch = 41 := by intro h; subst h; exact absurd hb (by decide)
  have e : bnd ch ≠ 1 := by omega
  refine ⟨((yRel (bnd ch) code wait).1, ch :: (yRel (bnd ch) code wait).2, (fun j => if j = op then (cm op || decide (bnd ch = 1)) else cm j), op, 0, true), ?_, rfl, rfl, rfl, rfl, fun j => ?_⟩
  · unfold yTake
    rw [if_neg (by rw [hw]; decide)]
    unfold yBehind
    simp only [if_neg h1, if_neg h2]
    rw [if_neg (by omega)]
  · dsimp only
    by_cases q : j = op
    · rw [if_pos q]; simp [e, q]
    · rw [if_neg q]
theorem bnd_mul {x : Int} (h : isMul x = true) : bnd x = 3 := by
  unfold isMul at h
  rcases (by simpa using h : x = 42 ∨ x = 47) with rfl | rfl <;> decide
theorem bnd_add {x : Int} (h : isAdd x = true) : bnd x = 2 := by
  unfold isAdd at h
  rcases (by simpa using h : x = 43 ∨ x = 45) with rfl | rfl <;> decide
theorem bnd_cmp {x : Int} (h : isCmp x = true) : bnd x = 1 := by
  unfold isCmp at h
  rcases (by simpa using h : x = 60 ∨ x = 62 ∨ x = 61) with rfl | rfl | rfl <;> decide
/-- the loop over operators that bind as b -/
theorem YLoop {p0 deep : Nat} {b : Int} {E : Nat → Prop} {op : Int → Bool} {th : Nat → GR} (hth : Fwd L th) (hb : 2 ≤ b) (hop : ∀ x, op x = true → bnd x = b) (hT : YTh T L p0 deep (b + 1) E th) (s0 : YS) (hs0 : s0.2.2.2.1 = deep) (hst : stp9 b s0.2.1) : ∀ j (v : GV) p (s : YS), p0 ≤ p → p ≤ L → L + 1 ≤ p + j → Got b s0 s v → nod T L p s → cmS s0 s → E p → (∀ w, gLoop T L op th j v p = Sum.inl w → yBad T L p s w) ∧ (∀ v' p', gLoop T L op th j v p = Sum.inr (v', p') → ∃ s', yTo T L p s p' s' ∧ Got b s0 s' v' ∧ nod T L p' s' ∧ cmS s0 s' ∧ E p' ∧ op (hrF T L p') = false) := by
  intro j
  induction j with
  | zero => intro v p s _ h1 h2; omega
  | succ j ih =>
    intro v p s h0 hpL hpj hG hn hc hE
    unfold gLoop
    by_cases ho : op (hrF T L p) = true
    · rw [if_pos ho]
      have hbn := hop _ ho
      have hpl : p < L := hrF_lt (T := T) (fun e => by rw [e] at hbn; rw [show bnd (-1) = 0 by decide] at hbn; omega)
      have hw : s.2.2.2.2.2 = false := by obtain ⟨_, _, _, _, _, _, _, q⟩ := hG; exact q
      have hop5 : s.2.2.2.1 = s0.2.2.2.1 := by obtain ⟨_, _, _, _, _, _, q, _⟩ := hG; exact q
      obtain ⟨s2, t1, t2, t3, t4, t5, t6⟩ := yTake_op (s := s) (ch := hrF T L p) hw (by omega)
      rw [hbn] at t2 t3
      have hto : yTo T L p s (p + 1) s2 := yTo_s hpl (by rw [← hr_T (T := T) hpl]; exact t1)
      have hst2 : stp9 (b + 1) s2.2.1 := by
        intro x t e
        rw [t3] at e
        obtain ⟨rfl, _⟩ := List.cons.inj e
        refine ⟨fun e => ?_, by omega⟩
        rw [e, show bnd 126 = 0 by decide] at hbn; omega
      obtain ⟨k1, k2⟩ := hT (p + 1) s2 (by omega) (by omega) t5 (by rw [t4, hop5, hs0]) hst2
      constructor
      · intro w hwl
        cases hx : th (p + 1) with
        | inl w' =>
          rw [hx] at hwl
          obtain rfl : w' = w := Sum.inl.inj hwl
          exact yBad_to hto (k1 w' hx)
        | inr x =>
          obtain ⟨o, p'⟩ := x
          rw [hx] at hwl
          have hf := hth _ _ _ hx
          obtain ⟨s3, u1, u2, u3, u4, u5⟩ := k2 o p' hx
          have hG2 : Got b s0 s3 (jn (hrF T L p) v o) := Got_op hG hst hbn (by omega) t2 t3 t4 u2
          have hc2 : cmS s0 s3 := fun i hi => by rw [u4 i (by rw [t4, hop5]; exact hi), t6 i]; exact hc i hi
          exact yBad_to (yTo_t hto u1) ((ih _ p' s3 (by omega) hf.2 (by omega) hG2 u3 hc2 u5).1 w hwl)
      · intro v' p2 hwl
        obtain ⟨o, p', hx, hwl⟩ := gB_r hwl
        have hf := hth _ _ _ hx
        obtain ⟨s3, u1, u2, u3, u4, u5⟩ := k2 o p' hx
        have hG2 : Got b s0 s3 (jn (hrF T L p) v o) := Got_op hG hst hbn (by omega) t2 t3 t4 u2
        have hc2 : cmS s0 s3 := fun i hi => by rw [u4 i (by rw [t4, hop5]; exact hi), t6 i]; exact hc i hi
        obtain ⟨s4, w1, w2⟩ := (ih _ p' s3 (by omega) hf.2 (by omega) hG2 u3 hc2 u5).2 v' p2 hwl
        exact ⟨s4, yTo_t (yTo_t hto u1) w1, w2⟩
    · rw [if_neg ho]
      refine ⟨fun w hw => (by cases hw), fun v' p' hx => ?_⟩
      simp only [Sum.inr.injEq, Prod.mk.injEq] at hx
      obtain ⟨rfl, rfl⟩ := hx
      exact ⟨s, yTo_r hpL, hG, hn, hc, hE, by simpa using ho⟩
/-- one level: a thing, then operators -/
theorem YLev {p0 deep : Nat} {b : Int} {E : Nat → Prop} {op : Int → Bool} {th : Nat → GR} (hth : Fwd L th) (hb : 2 ≤ b) (hop : ∀ x, op x = true → bnd x = b) (hT : YTh T L p0 deep (b + 1) E th) : YTh T L p0 deep b (fun p => E p ∧ op (hrF T L p) = false) (fun p => gBind (th p) (fun v p' => gLoop T L op th (L + 1) v p')) := by
  intro p s h0 hpL hw hdp hst
  obtain ⟨k1, k2⟩ := hT p s h0 hpL hw hdp (stp9_m hst (by omega))
  constructor
  · intro w hwl
    dsimp only at hwl
    cases hx : th p with
    | inl w' =>
      rw [hx] at hwl
      obtain rfl : w' = w := Sum.inl.inj hwl
      exact k1 w' hx
    | inr x =>
      obtain ⟨o, p'⟩ := x
      rw [hx] at hwl
      have hf := hth _ _ _ hx
      obtain ⟨s3, u1, u2, u3, u4, u5⟩ := k2 o p' hx
      exact yBad_to u1 ((YLoop hth hb hop hT s hdp hst (L + 1) o p' s3 (by omega) hf.2 (by omega) (Got_m u2 (by omega)) u3 u4 u5).1 w hwl)
  · intro v' p2 hwl
    dsimp only at hwl
    obtain ⟨o, p', hx, hwl⟩ := gB_r hwl
    have hf := hth _ _ _ hx
    obtain ⟨s3, u1, u2, u3, u4, u5⟩ := k2 o p' hx
    obtain ⟨s4, w1, w2, w3, w4, w5, w6⟩ := (YLoop hth hb hop hT s hdp hst (L + 1) o p' s3 (by omega) hf.2 (by omega) (Got_m u2 (by omega)) u3 u4 u5).2 v' p2 hwl
    exact ⟨s4, yTo_t u1 w1, w2, w3, w4, w5, w6⟩
theorem stk_no {s : YS} {ch : Int} (hw : s.2.2.2.2.2 = false) (hd : isDig ch = true → s.2.2.2.2.1 = 0 ∨ s.2.2.2.2.1 = 3) (h41 : ch = 41 → s.2.2.2.1 = 0) (hb : bnd ch = 0 ∨ (bnd ch = 1 ∧ s.2.2.1 s.2.2.2.1 = true)) : yTake s ch = none := by
  obtain ⟨code, wait, cm, op, dg, wn⟩ := s
  unfold yTake
  rw [if_neg (by rw [hw]; decide)]
  unfold yBehind
  dsimp only at hd h41 hb ⊢
  by_cases c1 : isDig ch = true
  · rw [if_pos c1, if_pos (by have := hd c1; omega)]
  · rw [if_neg c1]
    by_cases c2 : ch = 41
    · rw [if_pos c2, if_pos (h41 c2)]
    · rw [if_neg c2, if_pos hb]
theorem bnd_c (x : Int) : bnd x = 0 ∨ isMul x = true ∨ isAdd x = true ∨ isCmp x = true := by
  unfold bnd isMul isAdd isCmp
  by_cases h1 : x = 60 ∨ x = 61 ∨ x = 62
  · right; right; right; simp; omega
  · by_cases h2 : x = 43 ∨ x = 45
    · right; right; left; simpa using h2
    · by_cases h3 : x = 42 ∨ x = 47
      · right; left; simpa using h3
      · left; rw [if_neg h1, if_neg h2, if_neg h3]
theorem yTake_cmp {s : YS} {ch : Int} (hw : s.2.2.2.2.2 = false) (hb : bnd ch = 1) (hc : s.2.2.1 s.2.2.2.1 = false) : ∃ s2 : YS, yTake s ch = some s2 ∧ s2.1 = (yRel 1 s.1 s.2.1).1 ∧ s2.2.1 = ch :: (yRel 1 s.1 s.2.1).2 ∧ s2.2.2.2.1 = s.2.2.2.1 ∧ s2.2.2.2.2.2 = true ∧ (∀ j, j ≠ s.2.2.2.1 → s2.2.2.1 j = s.2.2.1 j) ∧ s2.2.2.1 s.2.2.2.1 = true := by
  obtain ⟨code, wait, cm, op, dg, wn⟩ := s
  have h1 : ¬ isDig ch = true := by
    unfold isDig; simp
    intro h
    unfold bnd at hb
    split at hb
    · omega
    split at hb
    · omega
    split at hb <;> omega
  have h2 : ¬ ch = 41 := by intro h; subst h; exact absurd hb (by decide)
  dsimp only at hc
  have e : ¬ (bnd ch = 0 ∨ bnd ch = 1 ∧ cm op = true) := by rw [hb, hc]; simp
  refine ⟨((yRel (bnd ch) code wait).1, ch :: (yRel (bnd ch) code wait).2, (fun j => if j = op then (cm op || decide (bnd ch = 1)) else cm j), op, 0, true), ?_, ?_, ?_, rfl, rfl, fun j hj => ?_, ?_⟩
  · unfold yTake
    rw [if_neg (by rw [hw]; decide)]
    unfold yBehind
    simp only [if_neg h1, if_neg h2]
    rw [if_neg e]
  · dsimp only; rw [hb]
  · dsimp only; rw [hb]
  · dsimp only at hj ⊢; rw [if_neg hj]
  · dsimp only; rw [if_pos rfl, hb]; simp
/-- what a comparison reads, at a level where none was made -/
theorem YHeld {p0 deep : Nat} {E : Nat → Prop} {sm : Nat → GR} (hsm : Fwd L sm) (hT : YTh T L p0 deep 2 E sm) : ∀ p (s : YS), p0 ≤ p → p ≤ L → s.2.2.2.2.2 = true → s.2.2.2.1 = deep → stp9 1 s.2.1 → s.2.2.1 deep = false → (∀ w, gBind (sm p) (fun v p' => if isCmp (hrF T L p') = true then gBind (sm (p' + 1)) (fun o p2 => Sum.inr (jn (hrF T L p') v o, p2)) else Sum.inr (v, p')) = Sum.inl w → yBad T L p s w) ∧ (∀ v p', gBind (sm p) (fun v p' => if isCmp (hrF T L p') = true then gBind (sm (p' + 1)) (fun o p2 => Sum.inr (jn (hrF T L p') v o, p2)) else Sum.inr (v, p')) = Sum.inr (v, p') → ∃ s', yTo T L p s p' s' ∧ Got 1 s s' v ∧ nod T L p' s' ∧ (∀ j, j < deep → s'.2.2.1 j = s.2.2.1 j) ∧ E p' ∧ (isCmp (hrF T L p') = true → s'.2.2.1 deep = true)) := by
  intro p s h0 hpL hw hdp hst hcm
  obtain ⟨k1, k2⟩ := hT p s h0 hpL hw hdp (stp9_m hst (by omega))
  have step : ∀ v p', sm p = Sum.inr (v, p') → isCmp (hrF T L p') = true → ∃ s1 s2 : YS, yTo T L p s p' s1 ∧ Got 2 s s1 v ∧ cmS s s1 ∧ yTo T L p' s1 (p' + 1) s2 ∧ s2.1 = (yRel 1 s1.1 s1.2.1).1 ∧ s2.2.1 = hrF T L p' :: (yRel 1 s1.1 s1.2.1).2 ∧ s2.2.2.2.1 = s1.2.2.2.1 ∧ s2.2.2.2.2.2 = true ∧ (∀ j, j ≠ deep → s2.2.2.1 j = s1.2.2.1 j) ∧ s2.2.2.1 deep = true ∧ s2.2.2.2.1 = deep ∧ stp9 2 s2.2.1 ∧ p' < L := by
    intro v p' hx hc
    have hbn := bnd_cmp hc
    obtain ⟨s1, u1, u2, u3, u4, u5⟩ := k2 v p' hx
    have hpl : p' < L := hrF_lt (T := T) (fun e => by rw [e] at hbn; exact absurd hbn (by decide))
    have hw1 : s1.2.2.2.2.2 = false := by obtain ⟨_, _, _, _, _, _, _, q⟩ := u2; exact q
    have hop1 : s1.2.2.2.1 = deep := by obtain ⟨_, _, _, _, _, _, q, _⟩ := u2; rw [q, hdp]
    obtain ⟨s2, t1, t2, t3, t4, t5, t6, t7⟩ := yTake_cmp (s := s1) (ch := hrF T L p') hw1 hbn (by rw [hop1, u4 deep (by omega)]; exact hcm)
    rw [hop1] at t6 t7
    refine ⟨s1, s2, u1, u2, u4, yTo_s hpl (by rw [← hr_T (T := T) hpl]; exact t1), t2, t3, t4, t5, t6, t7, by rw [t4, hop1], ?_, hpl⟩
    intro x t e
    rw [t3] at e
    obtain ⟨rfl, _⟩ := List.cons.inj e
    refine ⟨fun e => ?_, by omega⟩
    rw [e, show bnd 126 = 0 by decide] at hbn; omega
  constructor
  · intro w hwl
    cases hx : sm p with
    | inl w' =>
      rw [hx] at hwl
      obtain rfl : w' = w := Sum.inl.inj hwl
      exact k1 w' hx
    | inr x =>
      obtain ⟨v, p'⟩ := x
      rw [hx] at hwl
      have hwl2 : (if isCmp (hrF T L p') = true then gBind (sm (p' + 1)) (fun o p2 => Sum.inr (jn (hrF T L p') v o, p2)) else Sum.inr (v, p')) = (Sum.inl w : GR) := hwl
      by_cases hc : isCmp (hrF T L p') = true
      · rw [if_pos hc] at hwl2
        obtain ⟨s1, s2, a1, a2, a3, a4, a5, a6, a7, a8, a9, a10, a11, a12, a13⟩ := step v p' hx hc
        have hf := hsm _ _ _ hx
        obtain ⟨m1, m2⟩ := hT (p' + 1) s2 (by omega) (by omega) a8 a11 a12
        cases hy : sm (p' + 1) with
        | inl w' =>
          rw [hy] at hwl2
          obtain rfl : w' = w := Sum.inl.inj hwl2
          exact yBad_to (yTo_t a1 a4) (m1 w' hy)
        | inr y =>
          obtain ⟨o, p2⟩ := y
          rw [hy] at hwl2
          cases hwl2
      · rw [if_neg hc] at hwl2
        cases hwl2
  · intro v' p2 hwl
    obtain ⟨v, p', hx, hwl⟩ := gB_r hwl
    by_cases hc : isCmp (hrF T L p') = true
    · rw [if_pos hc] at hwl
      obtain ⟨s1, s2, a1, a2, a3, a4, a5, a6, a7, a8, a9, a10, a11, a12, a13⟩ := step v p' hx hc
      have hf := hsm _ _ _ hx
      obtain ⟨m1, m2⟩ := hT (p' + 1) s2 (by omega) (by omega) a8 a11 a12
      obtain ⟨o, p3, hy, hz⟩ := gB_r hwl
      simp only [Sum.inr.injEq, Prod.mk.injEq] at hz
      obtain ⟨rfl, rfl⟩ := hz
      obtain ⟨s3, u1, u2, u3, u4, u5⟩ := m2 o p3 hy
      refine ⟨s3, yTo_t (yTo_t a1 a4) u1, Got_op (Got_m a2 (by omega)) hst (bnd_cmp hc) (by omega) a5 a6 a7 u2, u3, fun j hj => ?_, u5, fun _ => ?_⟩
      · rw [u4 j (by rw [a11]; omega), a9 j (by omega), a3 j (by omega)]
      · rw [u4 deep (by rw [a11]; omega)]; exact a10
    · rw [if_neg hc] at hwl
      simp only [Sum.inr.injEq, Prod.mk.injEq] at hwl
      obtain ⟨rfl, rfl⟩ := hwl
      obtain ⟨s1, u1, u2, u3, u4, u5⟩ := k2 v p' hx
      exact ⟨s1, u1, Got_m u2 (by omega), u3, fun j hj => u4 j (by omega), u5, fun q => absurd q hc⟩
end
