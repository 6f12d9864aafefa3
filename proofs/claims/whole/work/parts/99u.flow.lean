/-! cut: flows and cuts, pure -/
def zs (g : Nat → Int) : Nat → Int
  | 0 => 0
  | n + 1 => zs g n + g n
theorem zs_cg {g g' : Nat → Int} : ∀ {n : Nat}, (∀ k, k < n → g k = g' k) → zs g n = zs g' n
  | 0, _ => rfl
  | n + 1, h => by
    show zs g n + g n = zs g' n + g' n
    rw [zs_cg (fun k hk => h k (by omega)), h n (by omega)]
theorem zs_up {g g' : Nat → Int} {a : Nat} : ∀ {n : Nat}, a < n → (∀ k, k < n → k ≠ a → g' k = g k) → zs g' n = zs g n + (g' a - g a)
  | 0, h, _ => absurd h (Nat.not_lt_zero _)
  | n + 1, h, hk => by
    show zs g' n + g' n = zs g n + g n + (g' a - g a)
    by_cases e : a = n
    · subst e
      rw [zs_cg (g := g') (g' := g) (fun k h1 => hk k (by omega) (by omega))]
      omega
    · rw [zs_up (n := n) (by omega) (fun k h1 h2 => hk k (by omega) h2), hk n (by omega) (fun q => e q.symm)]
      omega
theorem zs_le {g g' : Nat → Int} : ∀ {n : Nat}, (∀ k, k < n → g k ≤ g' k) → zs g n ≤ zs g' n
  | 0, _ => Int.le_refl _
  | n + 1, h => by
    have h1 := zs_le (n := n) (fun k hk => h k (by omega))
    have h2 := h n (by omega)
    show zs g n + g n ≤ zs g' n + g' n
    omega
theorem zs_cnt {q : Nat → Bool} : ∀ {n : Nat}, zs (fun k => if q k = true then 1 else 0) n = (cnt q n : Int)
  | 0 => rfl
  | n + 1 => by
    show zs (fun k => if q k = true then 1 else 0) n + (if q n = true then 1 else 0) = _
    rw [zs_cnt (n := n)]
    cases e : q n
    · rw [cnt_f e]; simp
    · rw [cnt_t e]; simp
theorem zs_0 : ∀ {n : Nat}, zs (fun _ => 0) n = 0
  | 0 => rfl
  | n + 1 => by
    show zs (fun _ => 0) n + 0 = 0
    rw [zs_0 (n := n)]; rfl
theorem zs_1 {g : Nat → Int} {a n : Nat} (ha : a < n) (h : ∀ k, k < n → k ≠ a → g k = 0) : zs g n = g a := by
  rw [zs_up (g := fun _ => 0) ha (fun k h1 h2 => h k h1 h2), zs_0]; omega
theorem cnt_or1 {q : Nat → Bool} {x : Bool} {a : Int} : ∀ {n : Nat}, cnt (fun f => q f || (x && decide ((f : Int) = a))) n ≤ cnt q n + (if x = true then 1 else 0) ∧ (((n : Int) ≤ a) → cnt (fun f => q f || (x && decide ((f : Int) = a))) n = cnt q n)
  | 0 => ⟨Nat.zero_le _, fun _ => rfl⟩
  | n + 1 => by
    have ih := cnt_or1 (q := q) (x := x) (a := a) (n := n)
    by_cases e : ((n : Nat) : Int) = a
    · have h1 := ih.2 (by omega)
      refine ⟨?_, fun w => by omega⟩
      show cnt (fun f => q f || (x && decide ((f : Int) = a))) n + (q n || (x && decide ((n : Int) = a))).toNat ≤ cnt q n + (q n).toNat + _
      rw [h1, decide_eq_true e]
      cases q n <;> cases x <;> simp
    · have h2 : cnt (fun f => q f || (x && decide ((f : Int) = a))) (n + 1) = cnt (fun f => q f || (x && decide ((f : Int) = a))) n + (q n).toNat := by
        show cnt (fun f => q f || (x && decide ((f : Int) = a))) n + (q n || (x && decide ((n : Int) = a))).toNat = _
        rw [decide_eq_false e]
        cases q n <;> cases x <;> rfl
      rw [h2]
      refine ⟨?_, fun w => ?_⟩
      · show _ ≤ cnt q n + (q n).toNat + _
        have := ih.1
        omega
      · show _ = cnt q n + (q n).toNat
        rw [ih.2 (by omega)]
def eT (th : Nat → Bool) (χ : Nat → Int) (f : Nat) : Int := if th f = true then χ (2 * f) - χ (2 * f + 1) else 0
def eA (c z : Nat) (al : Nat → Nat → Bool) (χ : Nat → Int) (d f : Nat) : Int := if al d f = true then χ (2 * f + 1) - χ (2 * (bsd c z f d).toNat) else 0
def Fi (c z : Nat) (th : Nat → Bool) (al : Nat → Nat → Bool) (χ : Nat → Int) : Int := zs (fun f => eT th χ f + (eA c z al χ 0 f + eA c z al χ 1 f + eA c z al χ 2 f + eA c z al χ 3 f)) z
def FV (c z : Nat) (p th : Nat → Bool) (al : Nat → Nat → Bool) : Prop := (∀ f, th f = true → f < z ∧ p f = true) ∧ ∀ d f, al d f = true → d < 4 ∧ f < z ∧ p f = true ∧ ∃ g : Nat, bsd c z f d = (g : Int) ∧ p g = true
def rs (c z : Nat) (p th : Nat → Bool) (al : Nat → Nat → Bool) (x y : Nat) : Prop := ∃ f, f < z ∧ ((x = 2 * f + 1 ∧ y = 2 * f ∧ th f = true) ∨ (x = 2 * f ∧ y = 2 * f + 1 ∧ th f = false) ∨ ∃ d g : Nat, d < 4 ∧ bsd c z f d = (g : Int) ∧ ((x = 2 * f + 1 ∧ y = 2 * g ∧ p g = true ∧ al d f = false) ∨ (x = 2 * f ∧ y = 2 * g + 1 ∧ al (3 - d) g = true)))
def tT (th : Nat → Bool) (f : Nat) : Nat → Bool := fun k => th k ^^ decide (k = f)
def tA (al : Nat → Nat → Bool) (d f : Nat) : Nat → Nat → Bool := fun e k => al e k ^^ (decide (e = d) && decide (k = f))
def CS (z : Nat) (p : Nat → Bool) (s t : Nat) (q : Nat → Bool) : Prop := ∀ f, q f = true → f < z ∧ p f = true ∧ f ≠ s ∧ f ≠ t
def Pd (c z : Nat) (p q : Nat → Bool) (s t : Nat) : Prop := ¬ Rch c z (fun f => p f = true ∧ q f = false) s t
theorem tT_at {th : Nat → Bool} {f : Nat} : tT th f f = !th f := by unfold tT; simp
theorem tT_ne {th : Nat → Bool} {f k : Nat} (h : k ≠ f) : tT th f k = th k := by unfold tT; simp [h]
theorem tA_at {al : Nat → Nat → Bool} {d f : Nat} : tA al d f d f = !al d f := by unfold tA; simp
theorem tA_ne {al : Nat → Nat → Bool} {d f e k : Nat} (h : ¬ (e = d ∧ k = f)) : tA al d f e k = al e k := by
  unfold tA
  by_cases h1 : e = d
  · have h2 : k ≠ f := fun q => h ⟨h1, q⟩
    simp [h2]
  · simp [h1]
theorem bsd_ne {c z f d : Nat} (hL : Lnd c z) (hd : d < 4) : bsd c z f d ≠ (f : Int) := by
  obtain ⟨hc1, _⟩ := hL
  have : d = 0 ∨ d = 1 ∨ d = 2 ∨ d = 3 := by omega
  rcases this with rfl | rfl | rfl | rfl
  · rw [bsd_0]; split <;> omega
  · rw [bsd_1]; split <;> omega
  · rw [bsd_2]; split <;> omega
  · rw [bsd_3]; split <;> omega
theorem bsd_inj {c z f d e : Nat} {g : Nat} (hL : Lnd c z) (hd : d < 4) (he : e < 4) (h1 : bsd c z f d = (g : Int)) (h2 : bsd c z f e = (g : Int)) : d = e := by
  rcases Nat.lt_trichotomy d e with w | w | w
  · have := bsd_ord (f := f) hL he w (by omega) (by omega); omega
  · exact w
  · have := bsd_ord (f := f) hL hd w (by omega) (by omega); omega
section
variable {c z s t k : Nat} {p th : Nat → Bool} {al : Nat → Nat → Bool} {χ : Nat → Int}
theorem Fi_T {f : Nat} (hf : f < z) : Fi c z (tT th f) al χ = Fi c z th al χ + (if th f = true then χ (2 * f + 1) - χ (2 * f) else χ (2 * f) - χ (2 * f + 1)) := by
  unfold Fi
  rw [zs_up (g := fun f => eT th χ f + (eA c z al χ 0 f + eA c z al χ 1 f + eA c z al χ 2 f + eA c z al χ 3 f)) hf (fun k h1 h2 => by unfold eT; rw [tT_ne h2])]
  unfold eT
  rw [tT_at]
  cases th f <;> simp <;> omega
theorem Fi_A {d f : Nat} (hf : f < z) (hd : d < 4) : Fi c z th (tA al d f) χ = Fi c z th al χ + (if al d f = true then χ (2 * (bsd c z f d).toNat) - χ (2 * f + 1) else χ (2 * f + 1) - χ (2 * (bsd c z f d).toNat)) := by
  unfold Fi
  have hne : ∀ e k, ¬ (e = d ∧ k = f) → eA c z (tA al d f) χ e k = eA c z al χ e k := fun e k h => by unfold eA; rw [tA_ne h]
  have hat : eA c z (tA al d f) χ d f - eA c z al χ d f = (if al d f = true then χ (2 * (bsd c z f d).toNat) - χ (2 * f + 1) else χ (2 * f + 1) - χ (2 * (bsd c z f d).toNat)) := by
    unfold eA
    rw [tA_at]
    cases al d f <;> simp
    omega
  rw [zs_up (g := fun f => eT th χ f + (eA c z al χ 0 f + eA c z al χ 1 f + eA c z al χ 2 f + eA c z al χ 3 f)) hf (fun k h1 h2 => by rw [hne 0 k (fun q => h2 q.2), hne 1 k (fun q => h2 q.2), hne 2 k (fun q => h2 q.2), hne 3 k (fun q => h2 q.2)]), ← hat]
  have : d = 0 ∨ d = 1 ∨ d = 2 ∨ d = 3 := by omega
  rcases this with rfl | rfl | rfl | rfl
  · rw [hne 1 f (by omega), hne 2 f (by omega), hne 3 f (by omega)]; omega
  · rw [hne 0 f (by omega), hne 2 f (by omega), hne 3 f (by omega)]; omega
  · rw [hne 0 f (by omega), hne 1 f (by omega), hne 3 f (by omega)]; omega
  · rw [hne 0 f (by omega), hne 1 f (by omega), hne 2 f (by omega)]; omega
theorem Fi_0 : Fi c z (fun _ => false) (fun _ _ => false) χ = 0 := by
  unfold Fi eT eA
  exact zs_0
/-- no cut has fewer fields than the flow -/
theorem flow_le {q : Nat → Bool} (hL : Lnd c z) (hs : s < z) (ps : p s = true) (hV : FV c z p th al) (hF : ∀ χ : Nat → Int, Fi c z th al χ = (k : Int) * (χ (2 * s + 1) - χ (2 * t))) (hq : CS z p s t q) (hP : Pd c z p q s t) : k ≤ cnt q z := by
  have hS : ∃ S : Nat → Bool, ∀ f, S f = true ↔ Rch c z (fun f => p f = true ∧ q f = false) s f := ⟨fun f => @decide _ (Classical.propDecidable (Rch c z (fun f => p f = true ∧ q f = false) s f)), fun f => @decide_eq_true_iff _ (Classical.propDecidable _)⟩
  obtain ⟨S, hS⟩ := hS
  have qs : q s = false := by
    cases e : q s
    · rfl
    · exact absurd rfl (hq s e).2.2.1
  have qt : q t = false := by
    cases e : q t
    · rfl
    · exact absurd rfl (hq t e).2.2.2
  have s1 : S s = true := (hS s).mpr (Rch_0 ⟨ps, qs⟩)
  have s2 : S t = false := by
    cases e : S t
    · rfl
    · exact absurd ((hS t).mp e) hP
  have h0 : ∀ f, (2 * f) % 2 = 0 ∧ (2 * f) / 2 = f ∧ (2 * f + 1) % 2 = 1 ∧ (2 * f + 1) / 2 = f := fun f => by omega
  let χ : Nat → Int := fun x => if x % 2 = 1 then (if S (x / 2) = true then 1 else 0) else (if S (x / 2) = true ∨ q (x / 2) = true then 1 else 0)
  have ce : ∀ f, χ (2 * f) = if S f = true ∨ q f = true then 1 else 0 := fun f => by
    show (if (2 * f) % 2 = 1 then _ else _) = _
    rw [(h0 f).1, (h0 f).2.1]; rfl
  have co : ∀ f, χ (2 * f + 1) = if S f = true then 1 else 0 := fun f => by
    show (if (2 * f + 1) % 2 = 1 then _ else _) = _
    rw [(h0 f).2.2.1, (h0 f).2.2.2, if_pos rfl]
  have hk := hF χ
  rw [ce t, co s, s1, s2, qt] at hk
  simp at hk
  have hle : Fi c z th al χ ≤ zs (fun f => if q f = true then 1 else 0) z := by
    unfold Fi
    refine zs_le (fun f hf => ?_)
    have h1 : eT th χ f ≤ if q f = true then 1 else 0 := by
      unfold eT
      rw [ce f, co f]
      cases th f <;> cases S f <;> cases q f <;> simp
    have h2 : ∀ d, eA c z al χ d f ≤ 0 := fun d => by
      unfold eA
      split
      · rename_i hal
        obtain ⟨hd, _, pf, g, hg, pg⟩ := hV.2 d f hal
        rw [hg, Int.toNat_natCast, ce g, co f]
        by_cases w : S f = true
        · have : S g = true ∨ q g = true := by
            cases e : q g
            · exact Or.inl ((hS g).mpr (Rch_s ((hS f).mp w) hf ⟨d, hd, hg⟩ ⟨pg, e⟩))
            · exact Or.inr rfl
          rw [if_pos w, if_pos this]; decide
        · rw [if_neg w]; split <;> decide
      · exact Int.le_refl _
    have a0 := h2 0
    have a1 := h2 1
    have a2 := h2 2
    have a3 := h2 3
    show eT th χ f + (eA c z al χ 0 f + eA c z al χ 1 f + eA c z al χ 2 f + eA c z al χ 3 f) ≤ _
    omega
  rw [zs_cnt, hk] at hle
  omega
end
