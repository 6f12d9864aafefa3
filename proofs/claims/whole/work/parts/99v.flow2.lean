/-! cut: where no way is left, there is a cut of the flow's size; a way more is a flow of one more -/
section
variable {c z s t k : Nat} {p th : Nat → Bool} {al : Nat → Nat → Bool}
theorem flow_cons (hF : ∀ χ : Nat → Int, Fi c z th al χ = (k : Int) * (χ (2 * s + 1) - χ (2 * t))) {f : Nat} (hf : f < z) (hfs : f ≠ s) : (if al 0 f = true then (1 : Int) else 0) + (if al 1 f = true then 1 else 0) + (if al 2 f = true then 1 else 0) + (if al 3 f = true then 1 else 0) = if th f = true then 1 else 0 := by
  have h0 := hF (fun x => if x = 2 * f + 1 then 1 else 0)
  rw [if_neg (show ¬ 2 * s + 1 = 2 * f + 1 by omega), if_neg (show ¬ 2 * t = 2 * f + 1 by omega)] at h0
  have e1 : Fi c z th al (fun x => if x = 2 * f + 1 then 1 else 0) = (fun k => eT th (fun x => if x = 2 * f + 1 then 1 else 0) k + (eA c z al (fun x => if x = 2 * f + 1 then 1 else 0) 0 k + eA c z al (fun x => if x = 2 * f + 1 then 1 else 0) 1 k + eA c z al (fun x => if x = 2 * f + 1 then 1 else 0) 2 k + eA c z al (fun x => if x = 2 * f + 1 then 1 else 0) 3 k)) f := by
    unfold Fi
    refine zs_1 hf (fun j hj hne => ?_)
    have a1 : ¬ 2 * j = 2 * f + 1 := by omega
    have a2 : ¬ 2 * j + 1 = 2 * f + 1 := by omega
    have a3 : ∀ x : Nat, ¬ 2 * x = 2 * f + 1 := fun x => by omega
    unfold eT eA
    simp only [a1, a2, a3, if_false]
    simp
  have a1 : ∀ x : Nat, ¬ 2 * x = 2 * f + 1 := fun x => by omega
  unfold eT eA at e1
  simp only [a1, if_false, if_true] at e1
  rw [e1] at h0
  have : (k : Int) * ((0 : Int) - 0) = 0 := by simp
  rw [this] at h0
  revert h0
  cases al 0 f <;> cases al 1 f <;> cases al 2 f <;> cases al 3 f <;> cases th f <;> simp
theorem flow_uni (hF : ∀ χ : Nat → Int, Fi c z th al χ = (k : Int) * (χ (2 * s + 1) - χ (2 * t))) {f d e : Nat} (hf : f < z) (hfs : f ≠ s) (hd : d < 4) (he : e < 4) (h1 : al d f = true) : th f = true ∧ (al e f = true → e = d) := by
  have h := flow_cons hF hf hfs
  have d1 : d = 0 ∨ d = 1 ∨ d = 2 ∨ d = 3 := by omega
  have d2 : e = 0 ∨ e = 1 ∨ e = 2 ∨ e = 3 := by omega
  revert h
  rcases d1 with rfl | rfl | rfl | rfl <;> rcases d2 with rfl | rfl | rfl | rfl <;> (rw [h1]; cases th f <;> cases al 0 f <;> cases al 1 f <;> cases al 2 f <;> cases al 3 f <;> simp)
theorem flow_cut {R : Nat → Prop} (hL : Lnd c z) (hs : s < z) (ht : t < z) (ps : p s = true) (hst : s ≠ t) (hN : ¬ Nbr c z s t) (hV : FV c z p th al) (hF : ∀ χ : Nat → Int, Fi c z th al χ = (k : Int) * (χ (2 * s + 1) - χ (2 * t))) (r1 : R (2 * s + 1)) (r2 : ¬ R (2 * t)) (r3 : ∀ x y, R x → rs c z p th al x y → R y) (r4 : ∀ y, R y → y ≠ 2 * s + 1 → ∃ x, R x ∧ rs c z p th al x y) (r5 : ∀ y, R y → y / 2 < z ∧ p (y / 2) = true) : ∃ q, CS z p s t q ∧ cnt q z = k ∧ Pd c z p q s t := by
  have hR : ∃ Rb : Nat → Bool, ∀ f, Rb f = true ↔ R f := ⟨fun f => @decide _ (Classical.propDecidable (R f)), fun f => @decide_eq_true_iff _ (Classical.propDecidable _)⟩
  obtain ⟨Rb, hR⟩ := hR
  have ho : ∀ f : Nat, 2 * f / 2 = f ∧ (2 * f + 1) / 2 = f := fun f => by omega
  -- what is left along a way behind s
  have hB : ∀ f d g : Nat, f ≠ s → f < z → R (2 * f + 1) → al d f = true → bsd c z f d = (g : Int) → R (2 * g) := by
    intro f d g hfs hf hRf hal hg
    have hd := (hV.2 d f hal).1
    obtain ⟨x, hx, f', hf', hc⟩ := r4 _ hRf (by omega)
    rcases hc with ⟨_, w, _⟩ | ⟨w1, w2, w3⟩ | ⟨d', g', hd', hg', hc⟩
    · omega
    · have e : f' = f := by omega
      subst e
      have := (flow_uni (e := d) hF hf hfs hd hd hal).1
      rw [w3] at this; cases this
    · rcases hc with ⟨_, w, _⟩ | ⟨w1, w2, w3⟩
      · omega
      · have e : g' = f := by omega
        subst e
        have e2 := (flow_uni (e := 3 - d') hF hf hfs hd (by omega) hal).2 w3
        have := bsd_op hL hf' hd' hg'
        rw [e2, hg] at this
        have e3 : g = f' := by omega
        subst e3
        rw [← w1]; exact hx
  let q1 : Nat → Bool := fun f => Rb (2 * f) && !Rb (2 * f + 1)
  let a : Nat → Bool := fun d => al d s && !Rb (2 * (bsd c z s d).toNat)
  let q : Nat → Bool := fun f => (((q1 f || (a 0 && decide ((f : Int) = bsd c z s 0))) || (a 1 && decide ((f : Int) = bsd c z s 1))) || (a 2 && decide ((f : Int) = bsd c z s 2))) || (a 3 && decide ((f : Int) = bsd c z s 3))
  have hq : ∀ f, q f = true ↔ (R (2 * f) ∧ ¬ R (2 * f + 1)) ∨ ∃ d, d < 4 ∧ al d s = true ∧ ¬ R (2 * (bsd c z s d).toNat) ∧ (f : Int) = bsd c z s d := by
    intro f
    have hq1 : q1 f = true ↔ (R (2 * f) ∧ ¬ R (2 * f + 1)) := by
      show (Rb (2 * f) && !Rb (2 * f + 1)) = true ↔ _
      rw [Bool.and_eq_true, Bool.not_eq_true', ← hR, ← hR, Bool.not_eq_true]
    have ha : ∀ d, (a d && decide ((f : Int) = bsd c z s d)) = true ↔ (al d s = true ∧ ¬ R (2 * (bsd c z s d).toNat) ∧ (f : Int) = bsd c z s d) := by
      intro d
      show ((al d s && !Rb (2 * (bsd c z s d).toNat)) && decide ((f : Int) = bsd c z s d)) = true ↔ _
      rw [Bool.and_eq_true, Bool.and_eq_true, Bool.not_eq_true', decide_eq_true_eq, ← hR, Bool.not_eq_true, and_assoc]
    show ((((q1 f || (a 0 && decide ((f : Int) = bsd c z s 0))) || (a 1 && decide ((f : Int) = bsd c z s 1))) || (a 2 && decide ((f : Int) = bsd c z s 2))) || (a 3 && decide ((f : Int) = bsd c z s 3))) = true ↔ _
    rw [Bool.or_eq_true, Bool.or_eq_true, Bool.or_eq_true, Bool.or_eq_true, hq1, ha 0, ha 1, ha 2, ha 3]
    constructor
    · rintro ((((w | w) | w) | w) | w)
      · exact Or.inl w
      · exact Or.inr ⟨0, by decide, w⟩
      · exact Or.inr ⟨1, by decide, w⟩
      · exact Or.inr ⟨2, by decide, w⟩
      · exact Or.inr ⟨3, by decide, w⟩
    · rintro (w | ⟨d, hd, w⟩)
      · exact Or.inl (Or.inl (Or.inl (Or.inl w)))
      · have d1 : d = 0 ∨ d = 1 ∨ d = 2 ∨ d = 3 := by omega
        rcases d1 with rfl | rfl | rfl | rfl
        · exact Or.inl (Or.inl (Or.inl (Or.inr w)))
        · exact Or.inl (Or.inl (Or.inr w))
        · exact Or.inl (Or.inr w)
        · exact Or.inr w
  have hCS : CS z p s t q := by
    intro f w
    rcases (hq f).mp w with ⟨w1, w2⟩ | ⟨d, hd, w1, w2, w3⟩
    · have := r5 _ w1
      rw [(ho f).1] at this
      exact ⟨this.1, this.2, fun e => w2 (by rw [e]; exact r1), fun e => r2 (by rw [← e]; exact w1)⟩
    · obtain ⟨_, _, _, g, hg, pg⟩ := hV.2 d s w1
      have e : f = g := by omega
      subst e
      have := bsd_lt hL hs hd hg (by omega)
      exact ⟨by omega, pg, fun e => bsd_ne (f := s) hL hd (by rw [hg, e]), fun e => hN ⟨d, hd, by rw [hg, e]⟩⟩
  have hPd : Pd c z p q s t := by
    intro hr
    have := hr.2 (fun f => R (2 * f + 1) ∧ f ≠ t) ⟨r1, hst⟩ (fun f n hf hfz hN' hpn => by
      obtain ⟨d, hd, hg⟩ := hN'
      have hRn : R (2 * n) := by
        cases e : al d f
        · exact r3 _ _ hf.1 ⟨f, hfz, Or.inr (Or.inr ⟨d, n, hd, hg, Or.inl ⟨rfl, rfl, hpn.1, e⟩⟩)⟩
        · by_cases hfs : f = s
          · subst hfs
            apply Classical.byContradiction
            intro w
            have : q n = true := (hq n).mpr (Or.inr ⟨d, hd, e, by rw [hg, Int.toNat_natCast]; exact w, hg.symm⟩)
            rw [hpn.2] at this; cases this
          · exact hB f d n hfs hfz hf.1 e hg
      refine ⟨?_, fun e => r2 (by rw [← e]; exact hRn)⟩
      apply Classical.byContradiction
      intro w
      have : q n = true := (hq n).mpr (Or.inl ⟨hRn, w⟩)
      rw [hpn.2] at this; cases this)
    exact this.2 rfl
  refine ⟨q, hCS, ?_, hPd⟩
  have hle := flow_le hL hs ps hV hF hCS hPd
  -- the other way round
  let χ : Nat → Int := fun x => if Rb x = true then 1 else 0
  have hk := hF χ
  have c1 : χ (2 * s + 1) = 1 := if_pos ((hR _).mpr r1)
  have c2 : χ (2 * t) = 0 := if_neg (fun w => r2 ((hR _).mp w))
  rw [c1, c2] at hk
  have hk' : Fi c z th al χ = (k : Int) := by rw [hk]; simp
  have hge : zs (fun f => (if q1 f = true then (1 : Int) else 0) + (if f = s then ((if a 0 = true then (1 : Int) else 0) + (if a 1 = true then 1 else 0) + (if a 2 = true then 1 else 0) + (if a 3 = true then 1 else 0)) else 0)) z ≤ Fi c z th al χ := by
    unfold Fi
    refine zs_le (fun f hf => ?_)
    have h1 : (if q1 f = true then (1 : Int) else 0) ≤ eT th χ f := by
      show (if (Rb (2 * f) && !Rb (2 * f + 1)) = true then (1 : Int) else 0) ≤ (if th f = true then (if Rb (2 * f) = true then (1 : Int) else 0) - (if Rb (2 * f + 1) = true then 1 else 0) else 0)
      cases e1 : th f
      · cases e2 : Rb (2 * f)
        · simp
        · have : Rb (2 * f + 1) = true := (hR _).mpr (r3 _ _ ((hR _).mp e2) ⟨f, hf, Or.inr (Or.inl ⟨rfl, rfl, e1⟩)⟩)
          rw [this]; simp
      · cases e2 : Rb (2 * f + 1)
        · cases Rb (2 * f) <;> simp
        · have : Rb (2 * f) = true := (hR _).mpr (r3 _ _ ((hR _).mp e2) ⟨f, hf, Or.inl ⟨rfl, rfl, e1⟩⟩)
          rw [this]; simp
    have h2 : ∀ d, d < 4 → (if f = s then (if a d = true then (1 : Int) else 0) else 0) ≤ eA c z al χ d f := by
      intro d hd
      unfold eA
      show (if f = s then (if (al d s && !Rb (2 * (bsd c z s d).toNat)) = true then (1 : Int) else 0) else 0) ≤ if al d f = true then (if Rb (2 * f + 1) = true then (1 : Int) else 0) - (if Rb (2 * (bsd c z f d).toNat) = true then 1 else 0) else 0
      cases e : al d f
      · by_cases hfs : f = s
        · subst hfs; rw [e]; simp
        · rw [if_neg hfs]; simp
      · obtain ⟨_, _, _, g, hg, pg⟩ := hV.2 d f e
        rw [if_pos rfl]
        by_cases hfs : f = s
        · subst hfs
          rw [if_pos rfl, e, (hR _).mpr r1]
          cases Rb (2 * (bsd c z f d).toNat) <;> simp
        · rw [if_neg hfs, hg, Int.toNat_natCast]
          cases e2 : Rb (2 * g)
          · split <;> simp
          · have hgz := bsd_lt hL hf hd hg (by omega)
            have : Rb (2 * f + 1) = true := (hR _).mpr (r3 _ _ ((hR _).mp e2) ⟨g, by omega, Or.inr (Or.inr ⟨3 - d, f, by omega, bsd_op hL hf hd hg, Or.inr ⟨rfl, rfl, by rw [show 3 - (3 - d) = d by omega]; exact e⟩⟩)⟩)
            rw [this]; simp
    have b0 := h2 0 (by decide)
    have b1 := h2 1 (by decide)
    have b2 := h2 2 (by decide)
    have b3 := h2 3 (by decide)
    show _ ≤ eT th χ f + (eA c z al χ 0 f + eA c z al χ 1 f + eA c z al χ 2 f + eA c z al χ 3 f)
    by_cases hfs : f = s
    · simp only [if_pos hfs] at b0 b1 b2 b3 ⊢
      omega
    · simp only [if_neg hfs] at b0 b1 b2 b3 ⊢
      omega
  have e1 : zs (fun f => (if q1 f = true then (1 : Int) else 0) + (if f = s then ((if a 0 = true then (1 : Int) else 0) + (if a 1 = true then 1 else 0) + (if a 2 = true then 1 else 0) + (if a 3 = true then 1 else 0)) else 0)) z = (cnt q1 z : Int) + ((if a 0 = true then (1 : Int) else 0) + (if a 1 = true then 1 else 0) + (if a 2 = true then 1 else 0) + (if a 3 = true then 1 else 0)) := by
    rw [zs_up (g := fun f => if q1 f = true then (1 : Int) else 0) hs (fun j h1 h2 => by rw [if_neg h2]; omega), zs_cnt]
    simp only [if_true]
    omega
  have l0 := (cnt_or1 (q := q1) (x := a 0) (a := bsd c z s 0) (n := z)).1
  have l1 := (cnt_or1 (q := fun f => q1 f || (a 0 && decide ((f : Int) = bsd c z s 0))) (x := a 1) (a := bsd c z s 1) (n := z)).1
  have l2 := (cnt_or1 (q := fun f => (q1 f || (a 0 && decide ((f : Int) = bsd c z s 0))) || (a 1 && decide ((f : Int) = bsd c z s 1))) (x := a 2) (a := bsd c z s 2) (n := z)).1
  have l3 := (cnt_or1 (q := fun f => ((q1 f || (a 0 && decide ((f : Int) = bsd c z s 0))) || (a 1 && decide ((f : Int) = bsd c z s 1))) || (a 2 && decide ((f : Int) = bsd c z s 2))) (x := a 3) (a := bsd c z s 3) (n := z)).1
  have l4 : cnt q z ≤ cnt (fun f => ((q1 f || (a 0 && decide ((f : Int) = bsd c z s 0))) || (a 1 && decide ((f : Int) = bsd c z s 1))) || (a 2 && decide ((f : Int) = bsd c z s 2))) z + (if a 3 = true then 1 else 0) := l3
  rw [e1, hk'] at hge
  have g0 : ((if a 0 = true then 1 else 0 : Nat) : Int) = if a 0 = true then (1 : Int) else 0 := by split <;> rfl
  have g1 : ((if a 1 = true then 1 else 0 : Nat) : Int) = if a 1 = true then (1 : Int) else 0 := by split <;> rfl
  have g2 : ((if a 2 = true then 1 else 0 : Nat) : Int) = if a 2 = true then (1 : Int) else 0 := by split <;> rfl
  have g3 : ((if a 3 = true then 1 else 0 : Nat) : Int) = if a 3 = true then (1 : Int) else 0 := by split <;> rfl
  omega
end
