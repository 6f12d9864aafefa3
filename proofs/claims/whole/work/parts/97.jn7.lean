/-! lock, build, grant, divert: alike -/
theorem lk_b0 {M : MM} {A B : Nat → Int} {z n g : Nat} {o : Nat} (hS : SnC M o A B z n) (hz : z ≤ 36) (hg : g < z) (hb : A (72 + g) = 0 ∨ A (72 + g) = 1) : lAnd (lUshr (M o 3) (g : Int)) 1 = 0 ↔ A (72 + g) = 0 := by
  have h := lk_bit (A := A) hz hg hb
  rw [← hS.2.1] at h
  constructor
  · intro w
    rw [if_pos w] at h; exact h.symm
  · intro w
    apply Classical.byContradiction
    intro q
    rw [if_neg q, w] at h
    exact absurd h (by decide)
theorem j_lock {t : Nat} {f : Int} : Jn t 72 207 [pI f] := by
  intro P Q M N hR d hd
  obtain ⟨b, rd, r, c, z, n, A, B, V, u, U, K, m, F, I, T, ln, R, rfl, rfl, hC, hD, hU, hK⟩ := hR
  obtain ⟨nx, hp, hus⟩ := hC.2.1
  obtain ⟨u1, u2, u3⟩ := hD.2.1
  have hz := GrC_z hC.1.1
  have hn6 := hC.1.2.2.1.1
  have hzr : r * c = z := hD.1.1.2.1.symm
  have hSO : SnO B z n A := ⟨hC.1.2.2.1, hC.1.2.2.2.2.2.2.2⟩
  have hS := hC.1.2.1
  have hA : ArR N 2 A := hD.1.2.1
  obtain ⟨x, P1, M1, e1, rfl, rfl, a1⟩ := c_lock (b := b) (f := f) hp d (by omega)
  obtain ⟨x', Q1, N1, e2, rfl, q1⟩ := r_lock (rd := rd) (ru := 7) (f := f) hD.1.1.1 u1 u2 d (by omega)
  rw [hzr] at q1
  have h32 := GrC_s hC.1.1
  unfold tlR tlM at *
  unfold rfL at q1
  rw [h32] at e1 a1
  have no : ∀ rr : Int, rr < 0 → actI M M M1 rr nx U.length → x' = some (pI rr) → N1 = uM N 1 10 0 → Ev d 72 [pR 1, pI f] (kz LC) (PC b) M (some (pI rr)) (kz LC) (PC b) M1 → ∃ v P' M' Q' N', Ev d 72 [pR 1, pI f] (kz LC) (PC b) M (some v) (kz LC) P' M' ∧ Ev d 207 [pR 1, pI f] (kz LR) (PR rd 7) N (some v) (kz LR) Q' N' ∧ Rel (t + 1) P' Q' M' N' := fun rr h1 h2 h3 h4 h5 => by
    subst h3; subst h4
    exact ⟨_, _, _, _, _, h5, e2, b, rd, r, c, z, n, A, B, V, u, U, K, m, F, I, T, ln, R, rfl, rfl, RelC_no hC hp hus h2 h1, RelR_10 hD, hU, hK⟩
  by_cases c1 : 0 ≤ f ∧ f < (z : Int)
  case neg =>
    rw [if_pos c1] at e1
    rw [if_pos c1, if_pos c1] at a1
    rw [if_pos c1, if_pos (by decide)] at q1
    exact no (-1) (by decide) a1 q1.1 q1.2 e1
  rw [if_neg (not_not_intro c1)] at e1
  rw [if_neg (not_not_intro c1), if_neg (not_not_intro c1)] at a1
  rw [if_neg (not_not_intro c1)] at q1
  obtain ⟨g, rfl⟩ : ∃ g : Nat, f = (g : Int) := ⟨f.toNat, by omega⟩
  have hg : g < z := by omega
  rw [Int.toNat_natCast] at q1
  have hb := (hSO.1.2.1 g hg).2.2
  have hb0 := lk_b0 hS hz.2 hg hb
  have hlb : EqW (lbc (M 5 3)) ((cnt (lkB A) z : Int)) := EqW_i <| by rw [hS.2.1]; exact lbc_bs (by omega)
  have hws : wsum (fun f => N 2 (72 + f)) z = (cnt (lkB A) z : Int) := by
    rw [← wsum_lk hz.2 (fun f hf => (hSO.1.2.1 f hf).2.2)]
    exact wsum_cg (fun f hf => hA (72 + f) (by omega))
  have h8 : cnt (lkB A) z ≤ 8 := hSO.2
  rw [hA (72 + g) (by omega), hws] at q1
  rw [(EqW_o hlb)] at e1 a1
  by_cases c2 : A (72 + g) = 0 ∧ 8 ≤ cnt (lkB A) z
  · have c3 : (lAnd (lUshr (M 5 3) (g : Int)) 1 = 0 ∧ (8 : Int) ≤ (cnt (lkB A) z : Int)) := ⟨hb0.mpr c2.1, by omega⟩
    rw [if_pos c3] at e1
    rw [if_pos c3, if_pos c3] at a1
    have c4 : (A (72 + g) = 0 ∧ (cnt (lkB A) z : Int) = 8) := ⟨c2.1, by omega⟩
    rw [if_pos c4, if_pos (by decide)] at q1
    exact no (-2) (by decide) a1 q1.1 q1.2 e1
  have c3 : ¬ (lAnd (lUshr (M 5 3) (g : Int)) 1 = 0 ∧ (8 : Int) ≤ (cnt (lkB A) z : Int)) := fun w => c2 ⟨hb0.mp w.1, by omega⟩
  rw [if_neg c3] at e1
  rw [if_neg c3, if_neg c3] at a1
  have c4 : ¬ (A (72 + g) = 0 ∧ (cnt (lkB A) z : Int) = 8) := fun w => c2 ⟨w.1, by omega⟩
  rw [if_neg c4, if_neg (by decide)] at q1
  obtain ⟨N2, k1, rfl, rfl⟩ := q1
  have hv : EqW (lbc (lXor (M 5 3) (lShl 1 (g : Int)))) ((cnt (lkB (tgA A g)) z : Int)) := EqW_i <| by
    have : M 5 3 = ((bs (lkB A) z : Nat) : Int) := hS.2.1
    rw [this, tg_bs hg hz.2 hb, lbc_bs (by omega)]
  rw [(EqW_o hv)] at e1 a1
  have hSO' : SnO B z n (tgA A g) := SnO_tg hSO hg hz.2 c2
  have n22 : N2 2 = N 2 := by rw [k1.1.2 2 (by decide) (by decide), uM_ne (by decide)]
  have hA' : ArR (uM N2 2 (72 + g) (w32 (1 - A (72 + g)))) 2 (tgA A g) := fun j hj => by
    rw [uM_at, if_pos rfl]
    unfold tgA
    by_cases e : j = 72 + g
    · rw [if_pos e, e, upN_at]; exact w32s (by omega)
    · rw [if_neg e, upN_ne e, n22]; exact hA j hj
  have hw2 : wsum (fun f => uM N2 2 (72 + g) (w32 (1 - A (72 + g))) 2 (72 + f)) z = (cnt (lkB (tgA A g)) z : Int) := by
    rw [← wsum_lk hz.2 (fun f hf => (hSO'.1.2.1 f hf).2.2)]
    exact wsum_cg (fun f hf => hA' (72 + f) (by omega))
  rw [hw2] at e2
  exact ⟨_, _, _, _, _, e1, e2, b, rd, r, c, z, n, tgA A g, B, V, u, psU A U, K, m, F, I, T, ln, R, rfl, rfl, RelC_act hC hp hus a1 (by omega) (SnC_tg hS hg hz.2 hn6 hb) hSO', RelR_act hD k1 (Fr_o Fr_refl (by decide) (by decide)) hA' hSO', VlU_ps hU hSO, hK⟩
theorem j_build {t : Nat} {f kk : Int} : Jn t 76 210 [pI f, pI kk] := by
  intro P Q M N hR d hd
  obtain ⟨b, rd, r, c, z, n, A, B, V, u, U, K, m, F, I, T, ln, R, rfl, rfl, hC, hD, hU, hK⟩ := hR
  obtain ⟨nx, hp, hus⟩ := hC.2.1
  obtain ⟨u1, u2, u3⟩ := hD.2.1
  have hz := GrC_z hC.1.1
  have hn6 := hC.1.2.2.1.1
  have hzr : r * c = z := hD.1.1.2.1.symm
  have hSO : SnO B z n A := ⟨hC.1.2.2.1, hC.1.2.2.2.2.2.2.2⟩
  have hS := hC.1.2.1
  have hA : ArR N 2 A := hD.1.2.1
  have h32 := GrC_s hC.1.1
  obtain ⟨x, P1, M1, e1, rfl, rfl, a1⟩ := c_build (b := b) (f := f) (kk := kk) (m := z) hp ⟨h32, hz.1, hz.2⟩ d (by omega)
  obtain ⟨x', Q1, N1, e2, rfl, q1⟩ := r_build (rd := rd) (ru := 7) (f := f) (kk := kk) hD.1.1.1 u1 u2 d (by omega)
  rw [hzr] at q1
  unfold mkR mkM at *
  rw [h32] at e1 a1
  by_cases c1 : (0 ≤ f ∧ f < (z : Int)) ∧ 0 ≤ kk ∧ kk ≤ 3
  case neg =>
    rw [if_pos c1] at e1
    rw [if_pos c1, if_pos c1] at a1
    rw [if_neg c1] at q1
    obtain ⟨rfl, rfl⟩ := q1
    exact ⟨_, _, _, _, _, e1, e2, b, rd, r, c, z, n, A, B, V, u, U, K, m, F, I, T, ln, R, rfl, rfl, RelC_no hC hp hus a1 (by decide), RelR_10 hD, hU, hK⟩
  rw [if_neg (not_not_intro c1)] at e1
  rw [if_neg (not_not_intro c1), if_neg (not_not_intro c1)] at a1
  rw [if_pos c1] at q1
  obtain ⟨rfl, N2, k1, rfl⟩ := q1
  obtain ⟨g, rfl⟩ : ∃ g : Nat, f = (g : Int) := ⟨f.toNat, by omega⟩
  have hg : g < z := by omega
  rw [Int.toNat_natCast] at e1 e2 a1
  have hSO' : SnO B z n (bdA A g kk) := SnO_bd hSO hg hz.2 c1.2
  have n22 : N2 2 = N 2 := by rw [k1.1.2 2 (by decide) (by decide), uM_ne (by decide)]
  have m6 : M 6 g = A g := (hS.1 g hg).1
  rw [m6] at e1 a1
  rw [hA g (by omega)] at e2
  have hA' : ArR (uM (uM N2 2 g kk) 2 (36 + g) 0) 2 (bdA A g kk) := fun j hj => by
    rw [uM_at, if_pos rfl]
    unfold bdA
    by_cases e : j = 36 + g
    · rw [if_pos e, e, upN_at]
    · rw [if_neg e, upN_ne e, uM_at, if_pos rfl]
      by_cases e' : j = g
      · rw [if_pos e', e', upN_at]
      · rw [if_neg e', upN_ne e', n22]; exact hA j hj
  exact ⟨_, _, _, _, _, e1, e2, b, rd, r, c, z, n, bdA A g kk, B, V, u, psU A U, K, m, F, I, T, ln, R, rfl, rfl, RelC_act hC hp hus a1 (by have := (hSO.1.2.1 g hg).1; omega) (SnC_bd hS hg hz.2 hn6) hSO', RelR_act hD k1 (Fr_o (Fr_o Fr_refl (by decide) (by decide)) (by decide) (by decide)) hA' hSO', VlU_ps hU hSO, hK⟩
theorem j_grant {t : Nat} {f kk : Int} : Jn t 78 211 [pI f, pI kk] := by
  intro P Q M N hR d hd
  obtain ⟨b, rd, r, c, z, n, A, B, V, u, U, K, m, F, I, T, ln, R, rfl, rfl, hC, hD, hU, hK⟩ := hR
  obtain ⟨nx, hp, hus⟩ := hC.2.1
  obtain ⟨u1, u2, u3⟩ := hD.2.1
  have hz := GrC_z hC.1.1
  have hn6 := hC.1.2.2.1.1
  have hzr : r * c = z := hD.1.1.2.1.symm
  have hSO : SnO B z n A := ⟨hC.1.2.2.1, hC.1.2.2.2.2.2.2.2⟩
  have hS := hC.1.2.1
  have hA : ArR N 2 A := hD.1.2.1
  have h55 : M 5 5 = (n : Int) := hS.2.2.2.1
  obtain ⟨x, P1, M1, e1, rfl, rfl, a1⟩ := c_grant (b := b) (g := f) (kk := kk) (m := n) hp h55 hn6 d (by omega)
  obtain ⟨x', Q1, N1, e2, rfl, q1⟩ := r_grant (rd := rd) (ru := 7) (f := f) (kk := kk) hD.1.1.1 u1 u2 d (by omega)
  unfold trR trM at *
  rw [h55] at e1 a1
  by_cases c1 : (0 ≤ f ∧ f < (n : Int)) ∧ 1 ≤ kk ∧ kk ≤ 3
  case neg =>
    rw [if_pos c1] at e1
    rw [if_pos c1, if_pos c1] at a1
    rw [if_neg c1] at q1
    obtain ⟨rfl, rfl⟩ := q1
    exact ⟨_, _, _, _, _, e1, e2, b, rd, r, c, z, n, A, B, V, u, U, K, m, F, I, T, ln, R, rfl, rfl, RelC_no hC hp hus a1 (by decide), RelR_10 hD, hU, hK⟩
  rw [if_neg (not_not_intro c1)] at e1
  rw [if_neg (not_not_intro c1), if_neg (not_not_intro c1)] at a1
  rw [if_pos c1] at q1
  obtain ⟨rfl, N2, k1, rfl⟩ := q1
  obtain ⟨g, rfl⟩ : ∃ g : Nat, f = (g : Int) := ⟨f.toNat, by omega⟩
  have hg : g < n := by omega
  rw [Int.toNat_natCast] at e1 e2 a1
  have hSO' : SnO B z n (grA A g kk) := SnO_gr hSO hg hz.2 c1.2
  have n22 : N2 2 = N 2 := by rw [k1.1.2 2 (by decide) (by decide), uM_ne (by decide)]
  have m10 : M 10 g = A (114 + g) := (hS.2.2.2.2 g hg).2.2.1
  have hSC : SnC (uM M (5 + 5) g (bXor (M (5 + 5) g) (bShl 1 kk))) 5 (grA A g kk) B z n := SnC_gr hS hg hz.2 hn6
  rw [m10] at e1
  have a1' : actI M (uM M (5 + 5) g (bXor (M (5 + 5) g) (bShl 1 kk))) M1 (bXor (A (114 + g)) (bShl 1 kk)) nx U.length := by rw [← m10]; exact a1
  rw [hA (114 + g) (by omega)] at e2
  have hrr := (hSO'.1.2.2.1 g hg).2.2.1
  have hA' : ArR (uM N2 2 (114 + g) (bXor (A (114 + g)) (bShl 1 kk))) 2 (grA A g kk) := fun j hj => by
    rw [uM_at, if_pos rfl]
    unfold grA
    by_cases e : j = 114 + g
    · rw [if_pos e, e, upN_at]
    · rw [if_neg e, upN_ne e, n22]; exact hA j hj
  unfold grA at hrr
  rw [upN_at] at hrr
  exact ⟨_, _, _, _, _, e1, e2, b, rd, r, c, z, n, grA A g kk, B, V, u, psU A U, K, m, F, I, T, ln, R, rfl, rfl, RelC_act hC hp hus a1' (by omega) hSC hSO', RelR_act hD k1 (Fr_o Fr_refl (by decide) (by decide)) hA' hSO', VlU_ps hU hSO, hK⟩
theorem j_divert {t : Nat} {g f : Int} : Jn t 80 212 [pI g, pI f] := by
  intro P Q M N hR d hd
  obtain ⟨b, rd, r, c, z, n, A, B, V, u, U, K, m, F, I, T, ln, R, rfl, rfl, hC, hD, hU, hK⟩ := hR
  obtain ⟨nx, hp, hus⟩ := hC.2.1
  obtain ⟨u1, u2, u3⟩ := hD.2.1
  have hz := GrC_z hC.1.1
  have hn6 := hC.1.2.2.1.1
  have hzr : r * c = z := hD.1.1.2.1.symm
  have hSO : SnO B z n A := ⟨hC.1.2.2.1, hC.1.2.2.2.2.2.2.2⟩
  have hS := hC.1.2.1
  have hA : ArR N 2 A := hD.1.2.1
  have h32 := GrC_s hC.1.1
  have h55 : M 5 5 = (n : Int) := hS.2.2.2.1
  obtain ⟨x, P1, M1, e1, rfl, rfl, a1⟩ := c_divert (b := b) (g := g) (f := f) (m := n) hp h55 hn6 d (by omega)
  obtain ⟨x', Q1, N1, e2, rfl, q1⟩ := r_divert (rd := rd) (ru := 7) (g := g) (f := f) hD.1.1.1 u1 u2 d (by omega)
  rw [hzr] at q1
  unfold mgR mgM at *
  unfold rfD at q1
  rw [h55, h32] at e1 a1
  by_cases c1 : (0 ≤ g ∧ g < (n : Int)) ∧ 0 ≤ f ∧ f < (z : Int)
  case neg =>
    rw [if_pos c1] at e1
    rw [if_pos c1, if_pos c1] at a1
    rw [if_pos c1, if_pos (by decide)] at q1
    obtain ⟨rfl, rfl⟩ := q1
    exact ⟨_, _, _, _, _, e1, e2, b, rd, r, c, z, n, A, B, V, u, U, K, m, F, I, T, ln, R, rfl, rfl, RelC_no hC hp hus a1 (by decide), RelR_10 hD, hU, hK⟩
  rw [if_neg (not_not_intro c1)] at e1
  rw [if_neg (not_not_intro c1), if_neg (not_not_intro c1)] at a1
  rw [if_neg (not_not_intro c1)] at q1
  obtain ⟨j, rfl⟩ : ∃ j : Nat, g = (j : Int) := ⟨g.toNat, by omega⟩
  have hg : j < n := by omega
  rw [Int.toNat_natCast] at e1 a1 q1
  have m9 : M 9 j = A (108 + j) := (hS.2.2.2.2 j hg).2.1
  rw [m9] at e1 a1
  rw [hA (108 + j) (by omega)] at q1
  by_cases c2 : A (108 + j) = f
  · rw [if_pos c2] at e1
    rw [if_pos c2, if_pos c2] at a1
    rw [if_pos c2, if_pos (by decide)] at q1
    obtain ⟨rfl, rfl⟩ := q1
    exact ⟨_, _, _, _, _, e1, e2, b, rd, r, c, z, n, A, B, V, u, U, K, m, F, I, T, ln, R, rfl, rfl, RelC_no hC hp hus a1 (by decide), RelR_10 hD, hU, hK⟩
  rw [if_neg c2] at e1
  rw [if_neg c2, if_neg c2] at a1
  rw [if_neg c2, if_neg (by decide)] at q1
  obtain ⟨rfl, N2, k1, rfl⟩ := q1
  have hSO' : SnO B z n (dvA A j f) := SnO_dv hSO hg hz.2 c1.2
  have n22 : N2 2 = N 2 := by rw [k1.1.2 2 (by decide) (by decide), uM_ne (by decide)]
  have hA' : ArR (uM N2 2 (108 + j) f) 2 (dvA A j f) := fun q hq => by
    rw [uM_at, if_pos rfl]
    unfold dvA
    by_cases e : q = 108 + j
    · rw [if_pos e, e, upN_at]
    · rw [if_neg e, upN_ne e, n22]; exact hA q hq
  have hSC : SnC (uM M (5 + 4) j f) 5 (dvA A j f) B z n := SnC_dv hS hg hz.2 hn6
  exact ⟨_, _, _, _, _, e1, e2, b, rd, r, c, z, n, dvA A j f, B, V, u, psU A U, K, m, F, I, T, ln, R, rfl, rfl, RelC_act hC hp hus a1 (by have := (hSO.1.2.2.1 j hg).2.1; omega) hSC hSO', RelR_act hD k1 (Fr_o Fr_refl (by decide) (by decide)) hA' hSO', VlU_ps hU hSO, hK⟩
