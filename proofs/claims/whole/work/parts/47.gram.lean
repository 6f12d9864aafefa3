/-! the grammar of rules: pure -/
abbrev GV : Type := (Nat → Int) → Int
abbrev GR : Type := Nat ⊕ (GV × Nat)
def gBind (x : GR) (f : GV → Nat → GR) : GR := match x with
  | Sum.inl w => Sum.inl w
  | Sum.inr (v, p) => f v p
def hrF (T : Nat → Int) (L p : Nat) : Int := if p < L then T p else -1
def isMul (x : Int) : Bool := decide (x = 42 ∨ x = 47)
def isAdd (x : Int) : Bool := decide (x = 43 ∨ x = 45)
def isCmp (x : Int) : Bool := decide (x = 60 ∨ x = 62 ∨ x = 61)
def isDig (x : Int) : Bool := decide (48 ≤ x ∧ x ≤ 57)
def loF (x : Int) : Int := if x = 107 then 0 else if x = 114 then 1 else if x = 111 then 2 else if x = 119 then 3 else if x = 110 then 4 else if x = 105 then 5 else -1
def jn (s : Int) (v o : GV) : GV := fun e => jnd s (v e) (o e)
def gLoop (T : Nat → Int) (L : Nat) (op : Int → Bool) (th : Nat → GR) : Nat → GV → Nat → GR
  | 0, v, p => Sum.inr (v, p)
  | j + 1, v, p => if op (hrF T L p) = true then gBind (th (p + 1)) (fun o p' => gLoop T L op th j (jn (hrF T L p) v o) p') else Sum.inr (v, p)
def gP (T : Nat → Int) (L : Nat) (th : Nat → GR) (p : Nat) : GR := gBind (th p) (fun v p' => gLoop T L isMul th (L + 1) v p')
def gS (T : Nat → Int) (L : Nat) (th : Nat → GR) (p : Nat) : GR := gBind (gP T L th p) (fun v p' => gLoop T L isAdd (gP T L th) (L + 1) v p')
def gH (T : Nat → Int) (L : Nat) (th : Nat → GR) (p : Nat) : GR := gBind (gS T L th p) (fun v p' => if isCmp (hrF T L p') = true then gBind (gS T L th (p' + 1)) (fun o p2 => Sum.inr (jn (hrF T L p') v o, p2)) else Sum.inr (v, p'))
def gN (T : Nat → Int) (L p : Nat) : GR := if isDig (hrF T L (p + 1)) = true then (if isDig (hrF T L (p + 2)) = true then Sum.inr (fun _ => 100 * (T p - 48) + 10 * (T (p + 1) - 48) + (T (p + 2) - 48), p + 3) else Sum.inr (fun _ => 10 * (T p - 48) + (T (p + 1) - 48), p + 2)) else Sum.inr (fun _ => T p - 48, p + 1)
def gT (T : Nat → Int) (L : Nat) : Nat → Nat → Nat → GR
  | 0, _, p => Sum.inl p
  | k + 1, deep, p => if hrF T L p = 45 then gBind (gT T L k deep (p + 1)) (fun v p' => Sum.inr (fun e => w32 (-v e), p')) else if hrF T L p = 40 ∧ deep < 4 then gBind (gH T L (gT T L k (deep + 1)) (p + 1)) (fun v p' => if hrF T L p' = 41 then Sum.inr (v, p' + 1) else Sum.inl p') else if isDig (hrF T L p) = true then gN T L p else if loF (hrF T L p) = -1 then Sum.inl p else Sum.inr (fun e => e (loF (hrF T L p)).toNat, p + 1)
section
variable {T : Nat → Int} {L : Nat}
theorem hrF_lt {p : Nat} (h : hrF T L p ≠ -1) : p < L := by
  unfold hrF at h
  split at h
  · assumption
  · exact absurd rfl h
theorem gB_r {x : GR} {f : GV → Nat → GR} {v : GV} {p : Nat} (h : gBind x f = Sum.inr (v, p)) : ∃ u q, x = Sum.inr (u, q) ∧ f u q = Sum.inr (v, p) := by
  rcases x with w | ⟨u, q⟩
  · exact absurd h (by simp [gBind])
  · exact ⟨u, q, rfl, h⟩
/-- a reader that goes on, within the text -/
def Fwd (L : Nat) (th : Nat → GR) : Prop := ∀ p v q, th p = Sum.inr (v, q) → p < q ∧ q ≤ L
theorem gLoop_f {op : Int → Bool} {th : Nat → GR} (hth : Fwd L th) : ∀ j v p u q, p ≤ L → gLoop T L op th j v p = Sum.inr (u, q) → p ≤ q ∧ q ≤ L
  | 0, v, p, u, q, hp, h => by
    simp only [gLoop, Sum.inr.injEq, Prod.mk.injEq] at h
    omega
  | j + 1, v, p, u, q, hp, h => by
    unfold gLoop at h
    split at h
    · obtain ⟨v', p', h1, h2⟩ := gB_r h
      have := hth _ _ _ h1
      have := gLoop_f hth j _ _ _ _ this.2 h2
      omega
    · simp only [Sum.inr.injEq, Prod.mk.injEq] at h
      omega
theorem gP_f {th : Nat → GR} (hth : Fwd L th) : Fwd L (gP T L th) := fun p v q h => by
  obtain ⟨v', p', h1, h2⟩ := gB_r h
  have := hth _ _ _ h1
  have := gLoop_f hth _ _ _ _ _ this.2 h2
  omega
theorem gS_f {th : Nat → GR} (hth : Fwd L th) : Fwd L (gS T L th) := fun p v q h => by
  obtain ⟨v', p', h1, h2⟩ := gB_r h
  have := gP_f hth _ _ _ h1
  have := gLoop_f (gP_f hth) _ _ _ _ _ this.2 h2
  omega
theorem gH_f {th : Nat → GR} (hth : Fwd L th) : Fwd L (gH T L th) := fun p v q h => by
  obtain ⟨v', p', h1, h2⟩ := gB_r h
  have := gS_f hth _ _ _ h1
  split at h2
  · obtain ⟨v2, p2, h3, h4⟩ := gB_r h2
    have := gS_f hth _ _ _ h3
    simp only [Sum.inr.injEq, Prod.mk.injEq] at h4
    omega
  · simp only [Sum.inr.injEq, Prod.mk.injEq] at h2
    omega
theorem dig_lt {p : Nat} (h : isDig (hrF T L p) = true) : p < L := by
  apply hrF_lt
  intro e
  rw [e] at h
  exact absurd h (by decide)
theorem gN_f {p : Nat} (hp : isDig (hrF T L p) = true) {v : GV} {q : Nat} (h : gN T L p = Sum.inr (v, q)) : p < q ∧ q ≤ L := by
  have h0 := dig_lt hp
  unfold gN at h
  split at h
  · rename_i h1
    have h1' := dig_lt h1
    split at h
    · rename_i h2
      have h2' := dig_lt h2
      simp only [Sum.inr.injEq, Prod.mk.injEq] at h; omega
    · simp only [Sum.inr.injEq, Prod.mk.injEq] at h; omega
  · simp only [Sum.inr.injEq, Prod.mk.injEq] at h; omega
theorem gT_f : ∀ k deep, Fwd L (gT T L k deep)
  | 0, deep => fun p v q h => by simp [gT] at h
  | k + 1, deep => fun p v q h => by
    unfold gT at h
    split at h
    · obtain ⟨v', p', h1, h2⟩ := gB_r h
      have := gT_f k deep _ _ _ h1
      simp only [Sum.inr.injEq, Prod.mk.injEq] at h2
      omega
    split at h
    · obtain ⟨v', p', h1, h2⟩ := gB_r h
      have := gH_f (gT_f k (deep + 1)) _ _ _ h1
      split at h2
      · rename_i h3
        have := hrF_lt (T := T) (L := L) (p := p') (by rw [h3]; decide)
        simp only [Sum.inr.injEq, Prod.mk.injEq] at h2
        omega
      · simp at h2
    split at h
    · rename_i h3
      exact gN_f h3 h
    split at h
    · simp at h
    · rename_i h3
      have : p < L := hrF_lt (T := T) (fun e => h3 (by rw [e]; decide))
      simp only [Sum.inr.injEq, Prod.mk.injEq] at h
      omega
end
