/-! the way along the distances; what can be reached: pure -/
def NV : Int := 1073741824
abbrev okN (h D : Nat → Int) (f : Nat) (n : Int) : Prop := 0 ≤ n ∧ 0 < h n.toNat ∧ D n.toNat + cst h n.toNat = D f
def nxt (c z : Nat) (h D : Nat → Int) (f : Nat) : Nat := if okN h D f (bsd c z f 0) then (bsd c z f 0).toNat else if okN h D f (bsd c z f 1) then (bsd c z f 1).toNat else if okN h D f (bsd c z f 2) then (bsd c z f 2).toNat else if okN h D f (bsd c z f 3) then (bsd c z f 3).toNat else f
def pwk (c z : Nat) (h D : Nat → Int) (s : Nat) : Nat → Nat
  | 0 => s
  | k + 1 => nxt c z h D (pwk c z h D s k)
def stp (c z : Nat) (h D : Nat → Int) (t : Nat) : Nat → Nat → Nat
  | 0, _ => 0
  | k + 1, f => if f = t then 0 else stp c z h D t k (nxt c z h D f) + 1
theorem nxt_ok {c z : Nat} {h D : Nat → Int} {f : Nat} (hx : ∃ d, d < 4 ∧ okN h D f (bsd c z f d)) : ∃ d, d < 4 ∧ bsd c z f d = (nxt c z h D f : Int) ∧ okN h D f (bsd c z f d) ∧ ∀ e, e < d → ¬ okN h D f (bsd c z f e) := by
  unfold nxt
  by_cases h0 : okN h D f (bsd c z f 0)
  · rw [if_pos h0]
    exact ⟨0, by omega, by have := h0.1; omega, h0, fun e he => by omega⟩
  · rw [if_neg h0]
    by_cases h1 : okN h D f (bsd c z f 1)
    · rw [if_pos h1]
      refine ⟨1, by omega, by have := h1.1; omega, h1, fun e he => ?_⟩
      have : e = 0 := by omega
      subst this
      exact h0
    · rw [if_neg h1]
      by_cases h2 : okN h D f (bsd c z f 2)
      · rw [if_pos h2]
        refine ⟨2, by omega, by have := h2.1; omega, h2, fun e he => ?_⟩
        have : e = 0 ∨ e = 1 := by omega
        rcases this with rfl | rfl
        · exact h0
        · exact h1
      · rw [if_neg h2]
        by_cases h3 : okN h D f (bsd c z f 3)
        · rw [if_pos h3]
          refine ⟨3, by omega, by have := h3.1; omega, h3, fun e he => ?_⟩
          have : e = 0 ∨ e = 1 ∨ e = 2 := by omega
          rcases this with rfl | rfl | rfl
          · exact h0
          · exact h1
          · exact h2
        · obtain ⟨d, hd, q⟩ := hx
          have : d = 0 ∨ d = 1 ∨ d = 2 ∨ d = 3 := by omega
          rcases this with rfl | rfl | rfl | rfl
          · exact absurd q h0
          · exact absurd q h1
          · exact absurd q h2
          · exact absurd q h3
section
variable {c z s t : Nat} {h D : Nat → Int} {I : Int}
theorem nxt_D (hL : Lnd c z) (hD : IsD c z h t I D) {f : Nat} (hf : f < z) (hI : D f < I) (ht : f ≠ t) : Nbr c z f (nxt c z h D f) ∧ nxt c z h D f < z ∧ 0 < h (nxt c z h D f) ∧ D (nxt c z h D f) + cst h (nxt c z h D f) = D f ∧ D (nxt c z h D f) < D f := by
  have hx : ∃ d, d < 4 ∧ okN h D f (bsd c z f d) := by
    rcases IsD_sup hD hf hI with e | ⟨_, n, ⟨d, hd, e⟩, h3, h4⟩
    · exact absurd e ht
    · refine ⟨d, hd, ?_⟩
      unfold okN
      rw [e]
      exact ⟨by omega, by simpa using h3, by simpa using h4⟩
  obtain ⟨d, hd, e, ho, _⟩ := nxt_ok hx
  have hN : Nbr c z f (nxt c z h D f) := ⟨d, hd, e⟩
  rw [e] at ho
  obtain ⟨_, o2, o3⟩ := ho
  simp only [Int.toNat_natCast] at o2 o3
  exact ⟨hN, Nbr_lt hL hf hN, o2, o3, by unfold cst at o3; omega⟩
theorem pwk_s {k : Nat} : pwk c z h D s (k + 1) = pwk c z h D (nxt c z h D s) k := by
  induction k with
  | zero => rfl
  | succ k ih => rw [pwk, ih]; rfl
theorem stp_ok (hL : Lnd c z) (hD : IsD c z h t I D) : ∀ (k f : Nat), f < z → D f < I → rnk z D f ≤ k → stp c z h D t k f ≤ rnk z D f ∧ pwk c z h D f (stp c z h D t k f) = t ∧ ∀ j, j ≤ stp c z h D t k f → pwk c z h D f j < z ∧ D (pwk c z h D f j) < I ∧ (j < stp c z h D t k f → pwk c z h D f j ≠ t) := by
  intro k
  induction k with
  | zero =>
    intro f hf hI hr
    have e : f = t := by
      apply Classical.byContradiction
      intro e
      have h1 := nxt_D hL hD hf hI e
      have := rnk_lt (z := z) (D := D) h1.2.1 h1.2.2.2.2
      omega
    refine ⟨by unfold stp; omega, by unfold stp pwk; exact e, fun j hj => ?_⟩
    have : j = 0 := by unfold stp at hj; omega
    subst this
    exact ⟨hf, hI, fun q => by unfold stp at q; omega⟩
  | succ k ih =>
    intro f hf hI hr
    unfold stp
    by_cases e : f = t
    · rw [if_pos e]
      refine ⟨by omega, by unfold pwk; exact e, fun j hj => ?_⟩
      have : j = 0 := by omega
      subst this
      exact ⟨hf, hI, fun q => by omega⟩
    · rw [if_neg e]
      have h1 := nxt_D hL hD hf hI e
      have h2 := rnk_lt (z := z) (D := D) h1.2.1 h1.2.2.2.2
      obtain ⟨g1, g2, g3⟩ := ih (nxt c z h D f) h1.2.1 (by omega) (by omega)
      refine ⟨by omega, by rw [pwk_s]; exact g2, fun j hj => ?_⟩
      rcases j with _ | j
      · exact ⟨hf, hI, fun _ => e⟩
      · rw [pwk_s]
        have := g3 j (by omega)
        exact ⟨this.1, this.2.1, fun q => this.2.2 (by omega)⟩
/-- nearer at each step -/
theorem pwk_dec (hL : Lnd c z) (hD : IsD c z h t I D) {k : Nat} (hk : ∀ j, j ≤ k → pwk c z h D s j < z ∧ D (pwk c z h D s j) < I ∧ (j < k → pwk c z h D s j ≠ t)) : ∀ i j, i < j → j ≤ k → D (pwk c z h D s j) < D (pwk c z h D s i) := by
  intro i j hij
  induction hij with
  | refl =>
    intro hj
    have := hk i (by omega)
    exact (nxt_D hL hD this.1 this.2.1 (this.2.2 (by omega))).2.2.2.2
  | step hij ih =>
    rename_i j
    intro hj
    have h1 := ih (by omega)
    have := hk j (by omega)
    have h2 := (nxt_D hL hD this.1 this.2.1 (this.2.2 (by omega))).2.2.2.2
    have e : pwk c z h D s (j + 1) = nxt c z h D (pwk c z h D s j) := rfl
    rw [← e] at h2
    exact Int.lt_trans h2 h1
end
/-- THE distances -/
noncomputable def dD (c z : Nat) (h : Nat → Int) (t : Nat) : Nat → Int := Classical.epsilon (fun D => IsD c z h t NV D)
theorem dD_is {c z t : Nat} {h : Nat → Int} (hL : Lnd c z) (hH : Hd z h) : IsD c z h t NV (dD c z h t) := Classical.epsilon_spec (p := fun D => IsD c z h t NV D) (D_ex0 hL hH (by unfold NV; omega))
abbrev hasP (c z : Nat) (h : Nat → Int) (s t : Nat) : Prop := 0 < h s ∧ 0 < h t ∧ dD c z h t s < NV
noncomputable def pV (c z : Nat) (h : Nat → Int) (s t : Nat) : Int := if hasP c z h s t then dD c z h t s / 64 else -1
noncomputable def pN (c z : Nat) (h : Nat → Int) (s t : Nat) : Nat := if hasP c z h s t then stp c z h (dD c z h t) t z s + 1 else 0
noncomputable def pW (c z : Nat) (h : Nat → Int) (s t : Nat) (k : Nat) : Nat := pwk c z h (dD c z h t) s k
section
variable {c z s t : Nat} {h : Nat → Int}
theorem pP (hL : Lnd c z) (hH : Hd z h) (hs : s < z) (hp : hasP c z h s t) : ∃ m, pN c z h s t = m + 1 ∧ m < z ∧ pW c z h s t 0 = s ∧ pW c z h s t m = t ∧ (∀ j, j ≤ m → pW c z h s t j < z ∧ dD c z h t (pW c z h s t j) < NV ∧ (j < m → pW c z h s t j ≠ t)) ∧ (∀ j, j < m → pW c z h s t (j + 1) = nxt c z h (dD c z h t) (pW c z h s t j)) ∧ ∀ i j, i < j → j ≤ m → pW c z h s t i ≠ pW c z h s t j := by
  have hD := dD_is (t := t) hL hH
  have hr := rnk_z (D := dD c z h t) hs
  obtain ⟨h1, h2, h3⟩ := stp_ok hL hD z s hs hp.2.2 (by omega)
  refine ⟨stp c z h (dD c z h t) t z s, by unfold pN; rw [if_pos hp], by omega, rfl, h2, h3, fun j _ => rfl, fun i j hij hj e => ?_⟩
  have := pwk_dec hL hD h3 i j hij hj
  have e2 : pwk c z h (dD c z h t) s i = pwk c z h (dD c z h t) s j := e
  rw [e2] at this
  omega
theorem pN_le (hL : Lnd c z) (hH : Hd z h) (hs : s < z) : pN c z h s t ≤ z := by
  by_cases hp : hasP c z h s t
  · obtain ⟨m, h1, h2, _⟩ := pP hL hH hs hp
    omega
  · unfold pN; rw [if_neg hp]; omega
theorem pN_0 : pN c z h s t = 0 ↔ ¬ hasP c z h s t := by
  unfold pN
  by_cases hp : hasP c z h s t
  · rw [if_pos hp]; constructor
    · intro q; omega
    · intro q; exact absurd hp q
  · rw [if_neg hp]; exact ⟨fun _ => hp, fun _ => rfl⟩
theorem pV_r (hL : Lnd c z) (hH : Hd z h) (hs : s < z) : -1 ≤ pV c z h s t ∧ pV c z h s t ≤ 3500 := by
  unfold pV
  by_cases hp : hasP c z h s t
  · have hD := dD_is (t := t) hL hH
    rw [if_pos hp]
    have := IsD_bd2 hL hH hD hs hp.2.2
    have := (hD.1.2.1 s hs).1
    omega
  · rw [if_neg hp]; omega
theorem pV_neg (hL : Lnd c z) (hH : Hd z h) (hs : s < z) : pV c z h s t < 0 ↔ ¬ hasP c z h s t := by
  unfold pV
  by_cases hp : hasP c z h s t
  · have hD := dD_is (t := t) hL hH
    rw [if_pos hp]
    have := (hD.1.2.1 s hs).1
    constructor
    · intro q; omega
    · intro q; exact absurd hp q
  · rw [if_neg hp]; exact ⟨fun _ => hp, fun _ => by omega⟩
end
/-- what can be reached -/
def Rch (c z : Nat) (p : Nat → Prop) (s f : Nat) : Prop := p s ∧ ∀ S : Nat → Prop, S s → (∀ f n, S f → f < z → Nbr c z f n → p n → S n) → S f
theorem Rch_0 {c z : Nat} {p : Nat → Prop} {s : Nat} (h : p s) : Rch c z p s s := ⟨h, fun _ q _ => q⟩
theorem Rch_s {c z : Nat} {p : Nat → Prop} {s f n : Nat} (h : Rch c z p s f) (hf : f < z) (hN : Nbr c z f n) (hn : p n) : Rch c z p s n := ⟨h.1, fun S h0 h1 => h1 f n (h.2 S h0 h1) hf hN hn⟩
theorem Rch_lt {c z : Nat} (hL : Lnd c z) {p : Nat → Prop} {s f : Nat} (hs : s < z) (h : Rch c z p s f) : f < z ∧ p f := h.2 (fun f => f < z ∧ p f) ⟨hs, h.1⟩ (fun f n q _ hN hn => ⟨Nbr_lt hL q.1 hN, hn⟩)
theorem Rch_p {c z s t : Nat} {h : Nat → Int} (hL : Lnd c z) (hH : Hd z h) (hs : s < z) (ht : t < z) : hasP c z h s t ↔ Rch c z (fun f => 0 < h f) s t := by
  have hD := dD_is (t := t) hL hH
  constructor
  · intro hp
    have key : ∀ f, f < z → dD c z h t f < NV → ∀ S : Nat → Prop, S f → (∀ f n, S f → f < z → Nbr c z f n → 0 < h n → S n) → S t := by
      refine IsD_ind hL hH hD (fun S q _ => q) (fun f n hf _ _ _ hN _ hn0 _ _ ih S q hc => ih S (hc f n q hf hN hn0) hc)
    exact ⟨hp.1, fun S q hc => key s hs hp.2.2 S q hc⟩
  · intro hr
    refine ⟨hr.1, (Rch_lt hL hs hr).2, ?_⟩
    apply Classical.byContradiction
    intro q
    have h1 := hr.2 (fun f => 0 < h f ∧ f < z ∧ ¬ dD c z h t f < NV) ⟨hr.1, hs, q⟩ (fun f n hf _ hN hn => by
      refine ⟨hn, Nbr_lt hL hf.2.1 hN, fun q2 => hf.2.2 ?_⟩
      have h2 := hD.2 f n hf.2.1 hf.1 hN hn
      have h3 := IsD_bd2 hL hH hD (Nbr_lt hL hf.2.1 hN) q2
      have h4 := (hH n (Nbr_lt hL hf.2.1 hN)).2
      unfold cst at h2
      unfold NV
      omega)
    have h5 := h1.2.2
    rw [hD.1.1] at h5
    exact h5 (by unfold NV; omega)
