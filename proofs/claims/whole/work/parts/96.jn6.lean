/-! lock, build, grant, divert: alike -/
theorem bs_xor1 {p : Nat → Bool} {z f : Nat} (hf : f < z) : bs p z ^^^ 2 ^ f = bs (fun k => p k ^^ decide (k = f)) z := by
  apply Nat.eq_of_testBit_eq
  intro i
  rw [Nat.testBit_xor, bs_bit, bs_bit]
  by_cases e : i = f
  · subst e
    simp [hf, Nat.testBit_two_pow_self]
  · have e2 : ¬ f = i := fun w => e w.symm
    simp [Nat.testBit_two_pow, e, e2]
def tgA (A : Nat → Int) (f : Nat) : Nat → Int := upN A (72 + f) (1 - A (72 + f))
def bdA (A : Nat → Int) (f : Nat) (k : Int) : Nat → Int := upN (upN A f k) (36 + f) 0
def grA (A : Nat → Int) (g : Nat) (k : Int) : Nat → Int := upN A (114 + g) (bXor (A (114 + g)) (bShl 1 k))
def dvA (A : Nat → Int) (g : Nat) (f : Int) : Nat → Int := upN A (108 + g) f
theorem upN_ne {α : Type} {g : Nat → α} {m k : Nat} {v : α} (h : k ≠ m) : upN g m v k = g k := by unfold upN; rw [if_neg h]
theorem upN_at {α : Type} {g : Nat → α} {m : Nat} {v : α} : upN g m v m = v := by unfold upN; rw [if_pos rfl]
section
variable {A B : Nat → Int} {z n : Nat}
theorem SnO_tg {f : Nat} (h : SnO B z n A) (hf : f < z) (hz : z ≤ 36) (hok : ¬ (A (72 + f) = 0 ∧ 8 ≤ cnt (lkB A) z)) : SnO B z n (tgA A f) := by
  obtain ⟨⟨a1, a2, a3, a4⟩, a5⟩ := h
  have hb := (a2 f hf).2.2
  refine ⟨⟨a1, fun k hk => ?_, fun k hk => ?_, ?_⟩, ?_⟩
  · unfold tgA
    rw [upN_ne (by omega), upN_ne (by omega)]
    refine ⟨(a2 k hk).1, (a2 k hk).2.1, ?_⟩
    by_cases e : k = f
    · subst e; rw [upN_at]; omega
    · rw [upN_ne (by omega)]; exact (a2 k hk).2.2
  · unfold tgA
    rw [upN_ne (by omega), upN_ne (by omega), upN_ne (by omega), upN_ne (by omega)]; exact a3 k hk
  · unfold tgA; rw [upN_ne (by omega)]; exact a4
  · unfold LkV at a5 ⊢
    have hlk : cnt (lkB A) z = cnt (fun f => decide (A (72 + f) = 1)) z := rfl
    rcases hb with hb | hb
    · have := cnt_1 (p := fun k => decide (tgA A f (72 + k) = 1)) (q := lkB A) hf (fun k _ hne => by
        unfold tgA lkB; rw [upN_ne (by omega)]) (by unfold tgA; simp only [upN_at, hb]; decide) (by unfold lkB; rw [hb]; decide)
      rw [this]
      omega
    · have := cnt_1 (p := lkB A) (q := fun k => decide (tgA A f (72 + k) = 1)) hf (fun k _ hne => by
        unfold tgA lkB; rw [upN_ne (by omega)]) (by unfold lkB; rw [hb]; decide) (by unfold tgA; simp only [upN_at, hb]; decide)
      omega
theorem SnO_bd {f : Nat} {k : Int} (h : SnO B z n A) (hf : f < z) (hz : z ≤ 36) (hk : 0 ≤ k ∧ k ≤ 3) : SnO B z n (bdA A f k) := by
  obtain ⟨⟨a1, a2, a3, a4⟩, a5⟩ := h
  have hne : ∀ j, j ≠ f → j ≠ 36 + f → bdA A f k j = A j := fun j h1 h2 => by unfold bdA; rw [upN_ne h2, upN_ne h1]
  refine ⟨⟨a1, fun q hq => ?_, fun q hq => ?_, by rw [hne 132 (by omega) (by omega)]; exact a4⟩, ?_⟩
  · rw [hne (72 + q) (by omega) (by omega)]
    by_cases e : q = f
    · subst e
      refine ⟨?_, ?_, (a2 q hq).2.2⟩
      · unfold bdA; rw [upN_ne (by omega), upN_at]; exact hk
      · unfold bdA; rw [upN_at]; omega
    · rw [hne q e (by omega), hne (36 + q) (by omega) (by omega)]; exact a2 q hq
  · rw [hne (108 + q) (by omega) (by omega), hne (114 + q) (by omega) (by omega), hne (120 + q) (by omega) (by omega), hne (126 + q) (by omega) (by omega)]; exact a3 q hq
  · unfold LkV at a5 ⊢
    rw [cnt_cg (q := fun f => decide (A (72 + f) = 1)) (fun q _ => by rw [hne (72 + q) (by omega) (by omega)])]; exact a5
theorem xr_15 : ∀ a : Nat, a < 16 → ∀ k : Nat, k < 4 → 1 ≤ k → 0 ≤ bXor (a : Int) (bShl 1 (k : Int)) ∧ bXor (a : Int) (bShl 1 (k : Int)) ≤ 15 := by decide +kernel
theorem SnO_gr {g : Nat} {k : Int} (h : SnO B z n A) (hg : g < n) (hz : z ≤ 36) (hk : 1 ≤ k ∧ k ≤ 3) : SnO B z n (grA A g k) := by
  obtain ⟨⟨a1, a2, a3, a4⟩, a5⟩ := h
  have hne : ∀ j, j ≠ 114 + g → grA A g k j = A j := fun j h1 => by unfold grA; rw [upN_ne h1]
  refine ⟨⟨a1, fun q hq => ?_, fun q hq => ?_, by rw [hne 132 (by omega)]; exact a4⟩, ?_⟩
  · rw [hne q (by omega), hne (36 + q) (by omega), hne (72 + q) (by omega)]; exact a2 q hq
  · rw [hne (108 + q) (by omega), hne (120 + q) (by omega), hne (126 + q) (by omega)]
    refine ⟨(a3 q hq).1, (a3 q hq).2.1, ?_, (a3 q hq).2.2.2⟩
    by_cases e : q = g
    · subst e
      have hr := (a3 q hq).2.2.1
      obtain ⟨x, hx⟩ : ∃ x : Nat, A (114 + q) = (x : Int) := ⟨(A (114 + q)).toNat, by omega⟩
      obtain ⟨y, hy⟩ : ∃ y : Nat, k = (y : Int) := ⟨k.toNat, by omega⟩
      unfold grA
      rw [upN_at, hx, hy]
      exact xr_15 x (by omega) y (by omega) (by omega)
    · rw [hne (114 + q) (by omega)]; exact (a3 q hq).2.2.1
  · unfold LkV at a5 ⊢
    rw [cnt_cg (q := fun f => decide (A (72 + f) = 1)) (fun q _ => by rw [hne (72 + q) (by omega)])]; exact a5
theorem SnO_dv {g : Nat} {f : Int} (h : SnO B z n A) (hg : g < n) (hz : z ≤ 36) (hf : 0 ≤ f ∧ f < (z : Int)) : SnO B z n (dvA A g f) := by
  obtain ⟨⟨a1, a2, a3, a4⟩, a5⟩ := h
  have hne : ∀ j, j ≠ 108 + g → dvA A g f j = A j := fun j h1 => by unfold dvA; rw [upN_ne h1]
  refine ⟨⟨a1, fun q hq => ?_, fun q hq => ?_, by rw [hne 132 (by omega)]; exact a4⟩, ?_⟩
  · rw [hne q (by omega), hne (36 + q) (by omega), hne (72 + q) (by omega)]; exact a2 q hq
  · rw [hne (114 + q) (by omega), hne (120 + q) (by omega), hne (126 + q) (by omega)]
    refine ⟨(a3 q hq).1, ?_, (a3 q hq).2.2⟩
    by_cases e : q = g
    · subst e
      unfold dvA; rw [upN_at]; exact hf
    · rw [hne (108 + q) (by omega)]; exact (a3 q hq).2.1
  · unfold LkV at a5 ⊢
    rw [cnt_cg (q := fun f => decide (A (72 + f) = 1)) (fun q _ => by rw [hne (72 + q) (by omega)])]; exact a5
variable {M : MM} {o : Nat}
theorem tg_bs {f : Nat} (hf : f < z) (hz : z ≤ 36) (hb : A (72 + f) = 0 ∨ A (72 + f) = 1) : lXor ((bs (lkB A) z : Nat) : Int) (lShl 1 (f : Int)) = ((bs (lkB (tgA A f)) z : Nat) : Int) := by
  have h1 : bs (lkB A) z < 2 ^ 62 := bs_le (by omega)
  have h2 : 2 ^ f < 2 ^ 62 := Nat.pow_lt_pow_right (by decide) (by omega)
  rw [one_shl (by omega), lXor_n (by omega) (by omega), bs_xor1 hf]
  congr 1
  refine bs_cg (fun k hk => ?_)
  unfold lkB tgA
  by_cases e : k = f
  · subst e
    rw [upN_at]
    rcases hb with hb | hb <;> rw [hb] <;> simp
  · rw [upN_ne (by omega), decide_eq_false e]; simp
theorem SnC_tg {f : Nat} (hS : SnC M o A B z n) (hf : f < z) (hz : z ≤ 36) (hn : n ≤ 6) (hb : A (72 + f) = 0 ∨ A (72 + f) = 1) : SnC (uM M o 3 (lXor (M o 3) (lShl 1 (f : Int)))) o (tgA A f) B z n := by
  obtain ⟨s1, s2, s3, s4, s5⟩ := hS
  have e3 : EqW (lXor (M o 3) (lShl 1 (f : Int))) (((bs (lkB (tgA A f)) z : Nat) : Int)) := EqW_i <| by rw [s2]; exact tg_bs hf hz hb
  rw [(EqW_o e3)]
  have hne : ∀ j, j ≠ 72 + f → tgA A f j = A j := fun j h1 => by unfold tgA; rw [upN_ne h1]
  refine ⟨fun k hk => ?_, ?_, ?_, ?_, fun q hq => ?_⟩
  · rw [uM_ne (by omega), uM_ne (by omega), hne k (by omega), hne (36 + k) (by omega)]; exact s1 k hk
  · rw [uM_at, if_pos rfl, if_pos rfl]; rfl
  · rw [uM_at, if_pos rfl, if_neg (by decide), hne 132 (by omega)]; exact s3
  · rw [uM_at, if_pos rfl, if_neg (by decide)]; exact s4
  · rw [uM_ne (by omega), uM_ne (by omega), uM_ne (by omega), uM_ne (by omega), uM_ne (by omega), hne _ (by omega), hne _ (by omega), hne _ (by omega), hne _ (by omega)]; exact s5 q hq
theorem SnC_bd {f : Nat} {k : Int} (hS : SnC M o A B z n) (hf : f < z) (hz : z ≤ 36) (hn : n ≤ 6) : SnC (uM (uM M (o + 1) f k) (o + 2) f 0) o (bdA A f k) B z n := by
  obtain ⟨s1, s2, s3, s4, s5⟩ := hS
  have hne : ∀ j, j ≠ f → j ≠ 36 + f → bdA A f k j = A j := fun j h1 h2 => by unfold bdA; rw [upN_ne h2, upN_ne h1]
  refine ⟨fun q hq => ?_, ?_, ?_, ?_, fun q hq => ?_⟩
  · rw [uM_ne (show o + 1 ≠ o + 2 by omega), uM_at, if_pos rfl, uM_at, if_pos rfl, uM_ne (show o + 2 ≠ o + 1 by omega)]
    by_cases e : q = f
    · subst e
      rw [if_pos rfl, if_pos rfl]
      unfold bdA
      rw [upN_ne (by omega), upN_at, upN_at]; exact ⟨rfl, rfl⟩
    · rw [if_neg e, if_neg e, hne q e (by omega), hne (36 + q) (by omega) (by omega)]; exact s1 q hq
  · rw [uM_ne (by omega), uM_ne (by omega), s2, bs_cg (q := fun f' => decide (bdA A f k (72 + f') = 1)) (fun q _ => by rw [hne (72 + q) (by omega) (by omega)])]
  · rw [uM_ne (by omega), uM_ne (by omega), hne 132 (by omega) (by omega)]; exact s3
  · rw [uM_ne (by omega), uM_ne (by omega)]; exact s4
  · rw [uM_ne (by omega), uM_ne (by omega), uM_ne (by omega), uM_ne (by omega), uM_ne (by omega), uM_ne (by omega), uM_ne (by omega), uM_ne (by omega), uM_ne (by omega), uM_ne (by omega), hne _ (by omega) (by omega), hne _ (by omega) (by omega), hne _ (by omega) (by omega), hne _ (by omega) (by omega)]; exact s5 q hq
theorem SnC_gr {g : Nat} {k : Int} (hS : SnC M o A B z n) (hg : g < n) (hz : z ≤ 36) (hn : n ≤ 6) : SnC (uM M (o + 5) g (bXor (M (o + 5) g) (bShl 1 k))) o (grA A g k) B z n := by
  obtain ⟨s1, s2, s3, s4, s5⟩ := hS
  have hne : ∀ j, j ≠ 114 + g → grA A g k j = A j := fun j h1 => by unfold grA; rw [upN_ne h1]
  refine ⟨fun q hq => ?_, ?_, ?_, ?_, fun q hq => ?_⟩
  · rw [uM_ne (by omega), uM_ne (by omega), hne q (by omega), hne (36 + q) (by omega)]; exact s1 q hq
  · rw [uM_ne (by omega), s2, bs_cg (q := fun f' => decide (grA A g k (72 + f') = 1)) (fun q _ => by rw [hne (72 + q) (by omega)])]
  · rw [uM_ne (by omega), hne 132 (by omega)]; exact s3
  · rw [uM_ne (by omega)]; exact s4
  · rw [uM_ne (show o + 3 ≠ o + 5 by omega), uM_ne (show o + 4 ≠ o + 5 by omega), uM_ne (show o + 6 ≠ o + 5 by omega), uM_ne (show o + 7 ≠ o + 5 by omega), hne (108 + q) (by omega), hne (120 + q) (by omega), hne (126 + q) (by omega), uM_at, if_pos rfl]
    refine ⟨(s5 q hq).1, (s5 q hq).2.1, ?_, (s5 q hq).2.2.2⟩
    by_cases e : q = g
    · subst e
      rw [if_pos rfl, (s5 q hq).2.2.1]; unfold grA; rw [upN_at]
    · rw [if_neg e, hne _ (by omega)]; exact (s5 q hq).2.2.1
theorem SnC_dv {g : Nat} {f : Int} (hS : SnC M o A B z n) (hg : g < n) (hz : z ≤ 36) (hn : n ≤ 6) : SnC (uM M (o + 4) g f) o (dvA A g f) B z n := by
  obtain ⟨s1, s2, s3, s4, s5⟩ := hS
  have hne : ∀ j, j ≠ 108 + g → dvA A g f j = A j := fun j h1 => by unfold dvA; rw [upN_ne h1]
  refine ⟨fun q hq => ?_, ?_, ?_, ?_, fun q hq => ?_⟩
  · rw [uM_ne (by omega), uM_ne (by omega), hne q (by omega), hne (36 + q) (by omega)]; exact s1 q hq
  · rw [uM_ne (by omega), s2, bs_cg (q := fun f' => decide (dvA A g f (72 + f') = 1)) (fun q _ => by rw [hne (72 + q) (by omega)])]
  · rw [uM_ne (by omega), hne 132 (by omega)]; exact s3
  · rw [uM_ne (by omega)]; exact s4
  · rw [uM_ne (show o + 3 ≠ o + 4 by omega), uM_ne (show o + 5 ≠ o + 4 by omega), uM_ne (show o + 6 ≠ o + 4 by omega), uM_ne (show o + 7 ≠ o + 4 by omega), hne (114 + q) (by omega), hne (120 + q) (by omega), hne (126 + q) (by omega), uM_at, if_pos rfl]
    refine ⟨(s5 q hq).1, ?_, (s5 q hq).2.2⟩
    by_cases e : q = g
    · subst e
      rw [if_pos rfl]; unfold dvA; rw [upN_at]
    · rw [if_neg e, hne _ (by omega)]; exact (s5 q hq).2.1
end
def psU (A : Nat → Int) (U : List (Nat → Int)) : List (Nat → Int) := (A :: U).take 12
theorem psU_l {A : Nat → Int} {U : List (Nat → Int)} : (psU A U).length = min (U.length + 1) 12 := by unfold psU; rw [List.length_take, List.length_cons, Nat.min_comm]
theorem psU_0 {A : Nat → Int} {U : List (Nat → Int)} : (psU A U).getD 0 n0 = A := rfl
theorem psU_s {A : Nat → Int} {U : List (Nat → Int)} {k : Nat} (hk : k < 11) : (psU A U).getD (k + 1) n0 = U.getD k n0 := by
  unfold psU
  rw [List.getD_eq_getElem?_getD, List.getD_eq_getElem?_getD, List.getElem?_take_of_lt (by omega), List.getElem?_cons_succ]
section
variable {M M' N N' : MM} {b : Bool} {t r c z n : Nat} {A A' B : Nat → Int} {V V' : GV} {u : Int} {U U' : List (Nat → Int)} {K K' : Nat → Option (Nat → Int)} {m : Nat} {F : Nat → Nat} {I : Nat → Bool} {T : Nat → Int} {ln : Nat} {R R' : List Int}
theorem VlU_ps (h : VlU U B z n) (hA : SnO B z n A) : VlU (psU A U) B z n := by
  intro k hk
  rw [psU_l] at hk
  cases k with
  | zero => exact hA
  | succ k => rw [psU_s (by omega)]; exact h k (by omega)
theorem UnC_ps {nx : Nat} (hp : pastI M nx U.length) (hus : ∀ k, k < U.length → SnC M (33 + 8 * ((nx + 11 - k) % 12)) (U.getD k n0) B z n) (hS : SnC M 5 A B z n) (hz : z ≤ 36) (hn : n ≤ 6) (h1 : pastI M' ((nx + 1) % 12) (min (U.length + 1) 12)) (h2 : eqS M' (33 + 8 * nx) M 5) (h3 : ∀ p, 33 ≤ p → p < 145 → (p < 33 + 8 * nx ∨ 41 + 8 * nx ≤ p) → M' p = M p) : UnC M' (psU A U) B z n := by
  have hnx := hp.2.1
  refine ⟨(nx + 1) % 12, by rw [psU_l]; exact h1, fun k hk => ?_⟩
  rw [psU_l] at hk
  cases k with
  | zero =>
    rw [show ((nx + 1) % 12 + 11 - 0) % 12 = nx by omega]
    exact SnC_eq hS h2 hz hn
  | succ k =>
    rw [psU_s (by omega), show ((nx + 1) % 12 + 11 - (k + 1)) % 12 = (nx + 11 - k) % 12 by omega]
    refine SnC_same (hus k (by omega)) (fun p q1 q2 => h3 p (by omega) (by omega) ?_)
    have : (nx + 11 - k) % 12 ≠ nx := by omega
    omega
theorem UnR_ps {x : Nat} (hR : Rmb U.length x M M') (hu : ∀ k, k < U.length → ∀ i, i < 133 → M 13 (133 * (U.length - 1 - k) + i) = U.getD k n0 i) (h12 : U.length ≤ 12) (hA : ∀ i, i < 133 → M x i = A i) : UnR M' (psU A U) := by
  obtain ⟨h1, h2, h3, h4⟩ := hR
  refine ⟨by rw [psU_l]; exact h2, by rw [psU_l]; omega, fun k hk i hi => ?_⟩
  rw [psU_l] at hk ⊢
  cases k with
  | zero => rw [Nat.sub_zero, h3 i hi]; exact hA i hi
  | succ k =>
    rw [psU_s (by omega), h4 _ (by omega) i hi, ← hu k (by omega) i hi]
    congr 2
    split <;> omega
theorem RelC_act {nx : Nat} {rr : Int} (h : RelC M b r c z n A B V u U K m F I T ln R) (hp : pastI M nx U.length) (hus : ∀ k, k < U.length → SnC M (33 + 8 * ((nx + 11 - k) % 12)) (U.getD k n0) B z n) (ha : actI M N M' rr nx U.length) (hr : ¬ rr < 0) (hS : SnC N 5 A' B z n) (hV : SnO B z n A') : RelC M' b r c z n A' B V u (psU A U) K m F I T ln R := by
  obtain ⟨h1, h2, h3⟩ := ha
  rw [if_neg hr] at h2
  have hz := GrC_z h.1.1
  have hn6 := h.1.2.2.1.1
  have hnx := hp.2.1
  refine RelC_st h (SnC_eq hS h1 hz.2 hn6) hV (UnC_ps hp hus h.1.2.1 hz.2 hn6 h2.1 h2.2.1 h2.2.2) (fun i hi => ?_) (fun p hp => h3 p (by omega))
  obtain ⟨d1, d2⟩ := h.2.2.1 i hi
  rw [h3 32 (by omega)]
  exact ⟨d1, fun A2 e => ⟨(d2 A2 e).1, SnC_same (d2 A2 e).2 (fun p q1 q2 => h2.2.2 p (by omega) (by omega) (by omega))⟩⟩
theorem RelC_no {nx : Nat} {rr : Int} (h : RelC M b r c z n A B V u U K m F I T ln R) (hp : pastI M nx U.length) (hus : ∀ k, k < U.length → SnC M (33 + 8 * ((nx + 11 - k) % 12)) (U.getD k n0) B z n) (ha : actI M M M' rr nx U.length) (hr : rr < 0) : RelC M' b r c z n A B V u U K m F I T ln R := by
  obtain ⟨h1, h2, h3⟩ := ha
  rw [if_pos hr] at h2
  have hz := GrC_z h.1.1
  have hn6 := h.1.2.2.1.1
  have hnx := hp.2.1
  refine RelC_st h (SnC_eq h.1.2.1 h1 hz.2 hn6) ⟨h.1.2.2.1, h.1.2.2.2.2.2.2.2⟩ ⟨nx, h2.1, fun k hk => SnC_same (hus k hk) (fun p q1 q2 => h2.2 p (by omega) (by omega))⟩ (fun i hi => ?_) (fun p hp => h3 p (by omega))
  obtain ⟨d1, d2⟩ := h.2.2.1 i hi
  rw [h3 32 (by omega)]
  exact ⟨d1, fun A2 e => ⟨(d2 A2 e).1, SnC_same (d2 A2 e).2 (fun p q1 q2 => h2.2 p (by omega) (by omega))⟩⟩
/-- the reference remembers and changes its state -/
theorem RelR_act (h : RelR N t r c z n A B V u U K m F I T ln R) (hR : Rmb U.length 2 (uM N 1 10 0) M) (hf : Fr [] [2] M N') (hA : ArR N' 2 A') (hV : SnO B z n A') : RelR N' (t + 1) r c z n A' B V u (psU A U) K m F I T ln R := by
  obtain ⟨u1, u2, u3⟩ := h.2.1
  have h0 : Fr [10, 27] [2, 13, 21, 22, 23] N (uM N 1 10 0) := Fr_1 Fr_refl (by decide)
  have h1 : Fr [10, 27] [2, 13] N N' := Fr_trans (Fr_trans (Fr_1 Fr_refl (by decide)) (Fr_mono hR.1 (by simp) (by simp))) (Fr_mono hf (by simp) (by simp))
  have hu := UnR_ps (A := A) hR (fun k hk i hi => by rw [uM_ne (by decide)]; exact u3 k hk i hi) u2 (fun i hi => by rw [uM_ne (by decide)]; exact h.1.2.1 i hi)
  exact RelR_st h hA hV (UnR_fr hu hf (by decide) (by decide)) (KpR_t (KpR_fr h.2.2.1 h1 (by decide) (by decide))) (Fr_mono h1 (by simp) (by simp))
end
