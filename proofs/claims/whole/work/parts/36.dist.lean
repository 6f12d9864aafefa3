/-! fields beside each other, distances: pure -/
def bsd (c z f d : Nat) : Int := if d = 0 then (if c ≤ f then (f : Int) - c else -1) else if d = 1 then (if f % c = 0 then -1 else (f : Int) - 1) else if d = 2 then (if f % c = c - 1 then -1 else (f : Int) + 1) else (if f + c < z then (f : Int) + c else -1)
def Nbr (c z f n : Nat) : Prop := ∃ d, d < 4 ∧ bsd c z f d = (n : Int)
/-- a land of c columns and z fields -/
def Lnd (c z : Nat) : Prop := 1 ≤ c ∧ c ≤ 6 ∧ z ≤ 36 ∧ ∃ r, 1 ≤ r ∧ r ≤ 6 ∧ z = r * c
theorem bsd_0 {c z f : Nat} : bsd c z f 0 = if c ≤ f then (f : Int) - c else -1 := rfl
theorem bsd_1 {c z f : Nat} : bsd c z f 1 = if f % c = 0 then -1 else (f : Int) - 1 := rfl
theorem bsd_2 {c z f : Nat} : bsd c z f 2 = if f % c = c - 1 then -1 else (f : Int) + 1 := rfl
theorem bsd_3 {c z f : Nat} : bsd c z f 3 = if f + c < z then (f : Int) + c else -1 := rfl
theorem md_s {f c : Nat} (hc : 1 ≤ c) (h : f % c ≠ c - 1) : (f + 1) % c = f % c + 1 := by
  have h1 : f % c < c := Nat.mod_lt _ (by omega)
  have h2 : f % c + 1 < c := by omega
  rw [Nat.add_mod, Nat.mod_eq_of_lt (show 1 < c by omega), Nat.mod_eq_of_lt h2]
theorem md_p {f c : Nat} (hc : 1 ≤ c) (h : f % c ≠ 0) : (f - 1) % c = f % c - 1 := by
  have h0 : 1 ≤ f := by
    rcases Nat.eq_zero_or_pos f with e | e
    · subst e; exact absurd (Nat.zero_mod c) h
    · exact e
  by_cases g : (f - 1) % c = c - 1
  · have h3 : f % c = 0 := by
      have e : f = (f - 1) + 1 := by omega
      rw [e, Nat.add_mod, g]
      by_cases c1 : c = 1
      · subst c1; exact Nat.mod_one _
      · rw [Nat.mod_eq_of_lt (show 1 < c by omega), show c - 1 + 1 = c by omega, Nat.mod_self]
    exact absurd h3 h
  · have h4 := md_s hc g
    rw [show f - 1 + 1 = f by omega] at h4
    omega
theorem mul_s {c r f : Nat} (hf : f < r * c) (h : (f + 1) % c ≠ 0) : f + 1 < r * c := by
  rcases Nat.lt_or_ge (f + 1) (r * c) with g | g
  · exact g
  · have e : f + 1 = r * c := by omega
    rw [e, Nat.mul_mod_left] at h
    exact absurd rfl h
theorem bsd_lt {c z f d : Nat} {n : Int} (hL : Lnd c z) (hf : f < z) (hd : d < 4) (h : bsd c z f d = n) (hn : 0 ≤ n) : n < z := by
  obtain ⟨hc, hc6, hz, r, hr, hr6, e⟩ := hL
  have : d = 0 ∨ d = 1 ∨ d = 2 ∨ d = 3 := by omega
  rcases this with rfl | rfl | rfl | rfl
  · rw [bsd_0] at h; split at h <;> omega
  · rw [bsd_1] at h; split at h <;> omega
  · rw [bsd_2] at h
    split at h
    · omega
    · rename_i g
      have := md_s hc g
      have := mul_s (c := c) (r := r) (f := f) (by omega) (by omega)
      omega
  · rw [bsd_3] at h; split at h <;> omega
theorem bsd_ge {c z f d : Nat} (hL : Lnd c z) (hd : d < 4) : -1 ≤ bsd c z f d := by
  have hc := hL.1
  have : d = 0 ∨ d = 1 ∨ d = 2 ∨ d = 3 := by omega
  rcases this with rfl | rfl | rfl | rfl
  · rw [bsd_0]; split <;> omega
  · rw [bsd_1]; split
    · omega
    · rename_i g
      rcases Nat.eq_zero_or_pos f with e | e
      · subst e; exact absurd (Nat.zero_mod c) g
      · omega
  · rw [bsd_2]; split <;> omega
  · rw [bsd_3]; split <;> omega
theorem Nbr_lt {c z f n : Nat} (hL : Lnd c z) (hf : f < z) (h : Nbr c z f n) : n < z := by
  obtain ⟨d, hd, e⟩ := h
  have := bsd_lt hL hf hd e (by omega)
  omega
/-- the way from the other field back is the opposite one -/
theorem bsd_op {c z f d n : Nat} (hL : Lnd c z) (hf : f < z) (hd : d < 4) (h : bsd c z f d = (n : Int)) : bsd c z n (3 - d) = (f : Int) := by
  have hn := bsd_lt hL hf hd h (by omega)
  have hc := hL.1
  have : d = 0 ∨ d = 1 ∨ d = 2 ∨ d = 3 := by omega
  rcases this with rfl | rfl | rfl | rfl
  · rw [bsd_0] at h
    split at h
    · rw [show 3 - 0 = 3 from rfl, bsd_3, if_pos (by omega)]; omega
    · omega
  · rw [bsd_1] at h
    split at h
    · omega
    · rename_i g
      have e := md_p hc g
      have hm : f % c < c := Nat.mod_lt _ (by omega)
      have e2 : n = f - 1 := by omega
      rw [show 3 - 1 = 2 from rfl, bsd_2, e2, if_neg (by omega)]
      have : 1 ≤ f := by omega
      omega
  · rw [bsd_2] at h
    split at h
    · omega
    · rename_i g
      have e := md_s hc g
      have e2 : n = f + 1 := by omega
      rw [show 3 - 2 = 1 from rfl, bsd_1, e2, if_neg (by omega)]
      omega
  · rw [bsd_3] at h
    split at h
    · rw [show 3 - 3 = 0 from rfl, bsd_0, if_pos (by omega)]; omega
    · omega
theorem Nbr_sym {c z f n : Nat} (hL : Lnd c z) (hf : f < z) (h : Nbr c z f n) : Nbr c z n f := by
  obtain ⟨d, hd, e⟩ := h
  exact ⟨3 - d, by omega, bsd_op hL hf hd e⟩
/-- the four stand in growing order -/
theorem bsd_ord {c z f d e : Nat} (hL : Lnd c z) (he : e < 4) (hde : d < e) (h0 : 0 ≤ bsd c z f d) (h1 : 0 ≤ bsd c z f e) : bsd c z f d < bsd c z f e := by
  have hc := hL.1
  have : e = 1 ∨ e = 2 ∨ e = 3 := by omega
  have h5 : c = 1 → f % c = 0 := fun q => by subst q; exact Nat.mod_one f
  have hm : f % c < c := Nat.mod_lt _ (by omega)
  rcases this with rfl | rfl | rfl
  · have : d = 0 := by omega
    subst this
    rw [bsd_0] at h0 ⊢
    rw [bsd_1] at h1 ⊢
    split at h0 <;> split at h1 <;> simp_all <;> omega
  · have : d = 0 ∨ d = 1 := by omega
    rcases this with rfl | rfl
    · rw [bsd_0] at h0 ⊢
      rw [bsd_2] at h1 ⊢
      split at h0 <;> split at h1 <;> simp_all <;> omega
    · rw [bsd_1] at h0 ⊢
      rw [bsd_2] at h1 ⊢
      split at h0 <;> split at h1 <;> simp_all <;> omega
  · have : d = 0 ∨ d = 1 ∨ d = 2 := by omega
    rcases this with rfl | rfl | rfl
    · rw [bsd_0] at h0 ⊢
      rw [bsd_3] at h1 ⊢
      split at h0 <;> split at h1 <;> simp_all <;> omega
    · rw [bsd_1] at h0 ⊢
      rw [bsd_3] at h1 ⊢
      split at h0 <;> split at h1 <;> simp_all <;> omega
    · rw [bsd_2] at h0 ⊢
      rw [bsd_3] at h1 ⊢
      by_cases g : f % c = c - 1
      · rw [if_pos g] at h0; omega
      · rw [if_neg g] at h0 ⊢
        split at h1
        · rename_i g2
          rw [if_pos g2]
          by_cases c1 : c = 1
          · have := h5 c1; omega
          · omega
        · omega
/-- how many below n -/
def cnt (p : Nat → Bool) : Nat → Nat
  | 0 => 0
  | n + 1 => cnt p n + (p n).toNat
theorem cnt_le (p : Nat → Bool) : ∀ n, cnt p n ≤ n
  | 0 => Nat.le_refl 0
  | n + 1 => by
    have := cnt_le p n
    have : (p n).toNat ≤ 1 := by cases p n <;> decide
    unfold cnt; omega
theorem cnt_mono {p q : Nat → Bool} : ∀ n, (∀ k, k < n → p k = true → q k = true) → cnt p n ≤ cnt q n
  | 0, _ => Nat.le_refl 0
  | n + 1, h => by
    have h1 := cnt_mono n (fun k hk => h k (by omega))
    have h2 : (p n).toNat ≤ (q n).toNat := by
      have := h n (by omega)
      cases hp : p n <;> cases hq : q n <;> simp_all
    unfold cnt; omega
theorem cnt_lt {p q : Nat → Bool} : ∀ n, (∀ k, k < n → p k = true → q k = true) → ∀ k, k < n → p k = false → q k = true → cnt p n < cnt q n
  | 0, _, k, hk, _, _ => by omega
  | n + 1, h, k, hk, hp, hq => by
    unfold cnt
    by_cases e : k = n
    · subst e
      have h1 := cnt_mono k (fun j hj => h j (by omega))
      rw [hp, hq]
      simp; omega
    · have h1 := cnt_lt n (fun j hj => h j (by omega)) k (by omega) hp hq
      have h2 : (p n).toNat ≤ (q n).toNat := by
        have := h n (by omega)
        cases hp : p n <;> cases hq : q n <;> simp_all
      omega
theorem cnt_full {p : Nat → Bool} {n k : Nat} (hk : k < n) (hp : p k = false) : cnt p n < n := by
  have h := cnt_lt (p := p) (q := fun _ => true) n (fun _ _ _ => rfl) k hk hp rfl
  exact Nat.lt_of_lt_of_le h (cnt_le _ n)
def cst (h : Nat → Int) (n : Nat) : Int := 64 * h n + 1
/-- hardnesses -/
def Hd (z : Nat) (h : Nat → Int) : Prop := ∀ f, f < z → 0 ≤ h f ∧ h f ≤ 99
/-- between the first guess and the end -/
def Up (c z : Nat) (h : Nat → Int) (t : Nat) (I : Int) (F : Nat → Int) : Prop := F t = 0 ∧ (∀ f, f < z → 0 ≤ F f ∧ F f ≤ I) ∧ ∀ f, f < z → F f < I → f = t ∨ (0 < h f ∧ ∃ n, Nbr c z f n ∧ 0 < h n ∧ F n + cst h n ≤ F f)
def Stb (c z : Nat) (h : Nat → Int) (F : Nat → Int) : Prop := ∀ f n, f < z → 0 < h f → Nbr c z f n → 0 < h n → F f ≤ F n + cst h n
def IsD (c z : Nat) (h : Nat → Int) (t : Nat) (I : Int) (D : Nat → Int) : Prop := Up c z h t I D ∧ Stb c z h D
theorem IsD_sup {c z t : Nat} {h D : Nat → Int} {I : Int} (hD : IsD c z h t I D) {f : Nat} (hf : f < z) (hI : D f < I) : f = t ∨ (0 < h f ∧ ∃ n, Nbr c z f n ∧ 0 < h n ∧ D n + cst h n = D f) := by
  rcases hD.1.2.2 f hf hI with e | ⟨h1, n, h2, h3, h4⟩
  · exact Or.inl e
  · exact Or.inr ⟨h1, n, h2, h3, by have := hD.2 f n hf h1 h2 h3; omega⟩
/-- induction along the distance -/
theorem IsD_ind {c z t : Nat} {h D : Nat → Int} {I : Int} (hL : Lnd c z) (hH : Hd z h) (hD : IsD c z h t I D) {Q : Nat → Prop} (h0 : Q t) (h1 : ∀ f n, f < z → f ≠ t → D f < I → 0 < h f → Nbr c z f n → n < z → 0 < h n → D n + cst h n = D f → D n < D f → Q n → Q f) : ∀ f, f < z → D f < I → Q f := by
  have key : ∀ k : Nat, ∀ f, f < z → D f < I → D f < (k : Int) → Q f := by
    intro k
    induction k with
    | zero =>
      intro f hf _ hk
      have := (hD.1.2.1 f hf).1
      omega
    | succ k ih =>
      intro f hf hI hk
      by_cases e : f = t
      · subst e; exact h0
      · rcases IsD_sup hD hf hI with e2 | ⟨g1, n, g2, g3, g4⟩
        · exact absurd e2 e
        · have hn := Nbr_lt hL hf g2
          have hlt : D n < D f := by unfold cst at g4; omega
          exact h1 f n hf e hI g1 g2 hn g3 g4 hlt (ih n hn (by omega) (by omega))
  intro f hf hI
  exact key (D f).toNat.succ f hf hI (by omega)
def rnk (z : Nat) (D : Nat → Int) (f : Nat) : Nat := cnt (fun g => decide (D g < D f)) z
theorem rnk_lt {z : Nat} {D : Nat → Int} {f n : Nat} (hn : n < z) (h : D n < D f) : rnk z D n < rnk z D f := by
  unfold rnk
  refine cnt_lt z (fun k _ hk => ?_) n hn ?_ ?_
  · simp only [decide_eq_true_eq] at hk ⊢; omega
  · simp
  · simpa using h
theorem rnk_z {z : Nat} {D : Nat → Int} {f : Nat} (hf : f < z) : rnk z D f < z := cnt_full hf (by simp)
theorem IsD_bd {c z t : Nat} {h D : Nat → Int} {I : Int} (hL : Lnd c z) (hH : Hd z h) (hD : IsD c z h t I D) : ∀ f, f < z → D f < I → D f ≤ 6337 * (rnk z D f : Int) := by
  refine IsD_ind hL hH hD ?_ ?_
  · rw [hD.1.1]; omega
  · intro f n hf _ _ _ _ hn _ he hlt ih
    have h1 := rnk_lt (z := z) hn hlt
    have h2 := (hH n hn).2
    unfold cst at he
    omega
theorem IsD_bd2 {c z t : Nat} {h D : Nat → Int} {I : Int} (hL : Lnd c z) (hH : Hd z h) (hD : IsD c z h t I D) {f : Nat} (hf : f < z) (hI : D f < I) : D f ≤ 221795 := by
  have h1 := IsD_bd hL hH hD f hf hI
  have h2 := rnk_z (D := D) hf
  have h3 := hL.2.2.1
  omega
theorem IsD_le {c z t : Nat} {h D D' : Nat → Int} {I I' : Int} (hL : Lnd c z) (hH : Hd z h) (hD : IsD c z h t I D) (hD' : IsD c z h t I' D') : ∀ f, f < z → D f < I → D' f ≤ D f := by
  refine IsD_ind hL hH hD ?_ ?_
  · rw [hD.1.1, hD'.1.1]; omega
  · intro f n hf _ _ hh hN hn hn0 he _ ih
    have := hD'.2 f n hf hh hN hn0
    omega
theorem IsD_un {c z t : Nat} {h D D' : Nat → Int} {I I' : Int} (hL : Lnd c z) (hH : Hd z h) (hD : IsD c z h t I D) (hD' : IsD c z h t I' D') (hI : 221795 < I) (hI' : 221795 < I') {f : Nat} (hf : f < z) : (D f < I ↔ D' f < I') ∧ (D f < I → D f = D' f) := by
  have a : D f < I → D' f < I' := fun q => by
    have h1 := IsD_le hL hH hD hD' f hf q
    have h2 := IsD_bd2 hL hH hD hf q
    omega
  have b : D' f < I' → D f < I := fun q => by
    have h1 := IsD_le hL hH hD' hD f hf q
    have h2 := IsD_bd2 hL hH hD' hf q
    omega
  exact ⟨⟨a, b⟩, fun q => by
    have h1 := IsD_le hL hH hD hD' f hf q
    have h2 := IsD_le hL hH hD' hD f hf (a q)
    omega⟩
/-- making one nearer -/
def fup (F : Nat → Int) (f : Nat) (v : Int) : Nat → Int := fun g => if g = f then v else F g
theorem fup_at {F : Nat → Int} {f : Nat} {v : Int} : fup F f v f = v := if_pos rfl
theorem fup_ne {F : Nat → Int} {f g : Nat} {v : Int} (h : g ≠ f) : fup F f v g = F g := if_neg h
theorem Nbr_ne {c z f : Nat} (hL : Lnd c z) (hf : f < z) : ¬ Nbr c z f f := by
  rintro ⟨d, hd, e⟩
  have hc := hL.1
  have : d = 0 ∨ d = 1 ∨ d = 2 ∨ d = 3 := by omega
  rcases this with rfl | rfl | rfl | rfl
  · rw [bsd_0] at e; split at e <;> omega
  · rw [bsd_1] at e; split at e <;> omega
  · rw [bsd_2] at e; split at e <;> omega
  · rw [bsd_3] at e; split at e <;> omega
theorem Up_relax {c z t : Nat} {h F : Nat → Int} {I : Int} (hL : Lnd c z) (hH : Hd z h) (hU : Up c z h t I F) {f n : Nat} (hf : f < z) (hh : 0 < h f) (hN : Nbr c z f n) (hn0 : 0 < h n) (hlt : F n + cst h n < F f) : Up c z h t I (fup F f (F n + cst h n)) := by
  have hn := Nbr_lt hL hf hN
  have b1 := hU.2.1 f hf
  have b2 := hU.2.1 n hn
  have b3 := (hH n hn).1
  have hc : 0 < cst h n := by unfold cst; omega
  have ft : f ≠ t := fun e => by subst e; rw [hU.1] at hlt; omega
  have nf : n ≠ f := fun e => by subst e; exact Nbr_ne hL hf hN
  refine ⟨by rw [fup_ne (fun e => ft e.symm)]; exact hU.1, fun g hg => ?_, fun g hg hI => ?_⟩
  · by_cases e : g = f
    · subst e; rw [fup_at]; omega
    · rw [fup_ne e]; exact hU.2.1 g hg
  · by_cases e : g = f
    · subst e
      refine Or.inr ⟨hh, n, hN, hn0, ?_⟩
      rw [fup_at, fup_ne nf]; omega
    · rw [fup_ne e] at hI ⊢
      rcases hU.2.2 g hg hI with q | ⟨q1, m, q2, q3, q4⟩
      · exact Or.inl q
      · refine Or.inr ⟨q1, m, q2, q3, ?_⟩
        by_cases e2 : m = f
        · subst e2; rw [fup_at]; omega
        · rw [fup_ne e2]; exact q4
def nsum (F : Nat → Int) : Nat → Int
  | 0 => 0
  | n + 1 => nsum F n + F n
theorem nsum_fup {F : Nat → Int} {f : Nat} {v : Int} : ∀ n, nsum (fup F f v) n = if f < n then nsum F n + (v - F f) else nsum F n
  | 0 => by simp [nsum]
  | n + 1 => by
    unfold nsum
    rw [nsum_fup n]
    by_cases e : n = f
    · subst e
      rw [fup_at, if_neg (by omega), if_pos (by omega)]; omega
    · rw [fup_ne e]
      by_cases g : f < n
      · rw [if_pos g, if_pos (by omega)]; omega
      · rw [if_neg g, if_neg (by omega)]
theorem nsum_ge {F : Nat → Int} : ∀ n, (∀ k, k < n → 0 ≤ F k) → 0 ≤ nsum F n
  | 0, _ => Int.le_refl 0
  | n + 1, h => by
    have := nsum_ge n (fun k hk => h k (by omega))
    have := h n (by omega)
    unfold nsum; omega
theorem D_ex {c z t : Nat} {h : Nat → Int} {I : Int} (hL : Lnd c z) (hH : Hd z h) : ∀ (s : Nat) (F : Nat → Int), nsum F z < (s : Int) → Up c z h t I F → ∃ D, IsD c z h t I D := by
  intro s
  induction s with
  | zero =>
    intro F hs hU
    have := nsum_ge (F := F) z (fun k hk => (hU.2.1 k hk).1)
    omega
  | succ s ih =>
    intro F hs hU
    by_cases e : Stb c z h F
    · exact ⟨F, hU, e⟩
    · unfold Stb at e
      have : ∃ f n, f < z ∧ 0 < h f ∧ Nbr c z f n ∧ 0 < h n ∧ F n + cst h n < F f := by
        apply Classical.byContradiction
        intro q
        apply e
        intro f n a1 a2 a3 a4
        apply Classical.byContradiction
        intro q2
        exact q ⟨f, n, a1, a2, a3, a4, by omega⟩
      obtain ⟨f, n, a1, a2, a3, a4, a5⟩ := this
      refine ih _ ?_ (Up_relax hL hH hU a1 a2 a3 a4 a5)
      rw [nsum_fup, if_pos a1]
      omega
theorem Up_0 {c z t : Nat} {h : Nat → Int} {I : Int} (hI : 0 ≤ I) : Up c z h t I (fup (fun _ => I) t 0) := by
  refine ⟨fup_at, fun f hf => ?_, fun f hf hlt => ?_⟩
  · unfold fup; dsimp only; split <;> omega
  · by_cases e : f = t
    · exact Or.inl e
    · rw [fup_ne e] at hlt; omega
theorem D_ex0 {c z t : Nat} {h : Nat → Int} {I : Int} (hL : Lnd c z) (hH : Hd z h) (hI : 0 ≤ I) : ∃ D, IsD c z h t I D := D_ex hL hH ((nsum (fup (fun _ => I) t 0) z).toNat + 1) _ (by omega) (Up_0 hI)
