/-! the questions: alike -/
theorem j_path {t : Nat} {g : Int} : Jn t 91 219 [pI g] := Jn_q (fun M N b rd r c z n A B V u m F I h1 h2 h3 h4 => ⟨_, _, 5, 184, by decide, by decide, c_path h1, r_path h2⟩)
theorem j_blocked {t : Nat} : Jn t 94 220 [] := Jn_q (fun M N b rd r c z n A B V u m F I h1 h2 h3 h4 => ⟨_, _, 5, 185, by decide, by decide, c_blocked h1, r_blocked h2⟩)
theorem j_detour {t : Nat} {g f : Int} : Jn t 96 222 [pI g, pI f] := Jn_q (fun M N b rd r c z n A B V u m F I h1 h2 h3 h4 => ⟨_, _, 5, 185, by decide, by decide, c_detour h1, r_detour h2⟩)
theorem j_vital {t : Nat} {g : Int} : Jn t 97 224 [pI g] := Jn_q (fun M N b rd r c z n A B V u m F I h1 h2 h3 h4 => ⟨_, _, 5, 185, by decide, by decide, c_vital h1, r_vital h2⟩)
theorem j_later {t : Nat} {k : Int} : Jn t 122 240 [pI k] := Jn_q (fun M N b rd r c z n A B V u m F I h1 h2 h3 h4 => ⟨_, _, 6, 186, by decide, by decide, c_later h1, r_later h2⟩)
theorem j_deepest {t : Nat} {k : Int} : Jn t 127 243 [pI k] := Jn_q (fun M N b rd r c z n A B V u m F I h1 h2 h3 h4 => ⟨_, _, 6, 186, by decide, by decide, c_deepest h1, r_deepest h2⟩)
theorem j_claims {t : Nat} {f : Int} : Jn t 121 239 [pI f] := Jn_q (fun M N b rd r c z n A B V u m F I h1 h2 h3 h4 => ⟨_, _, 6, 186, by decide, by decide, c_claims h1, r_claims h2⟩)
theorem j_alters {t : Nat} {g : Int} : Jn t 126 242 [pI g] := Jn_q (fun M N b rd r c z n A B V u m F I h1 h2 h3 h4 => ⟨_, _, 6, 186, by decide, by decide, c_alters h1, r_alters h2⟩)
theorem j_busiest {t : Nat} : Jn t 114 230 [] := Jn_q (fun M N b rd r c z n A B V u m F I h1 h2 h3 h4 => ⟨_, _, 5, 185, by decide, by decide, c_busiest h1, r_busiest h2⟩)
theorem j_hard {t : Nat} {g f : Int} : Jn t 40 197 [pI g, pI f] := Jn_q (fun M N b rd r c z n A B V u m F I h1 h2 h3 h4 => ⟨_, _, 4, 183, by decide, by decide, c_hard h1, r_hard h2⟩)
theorem j_better {t : Nat} {g : Int} : Jn t 118 236 [pI g] := Jn_q (fun M N b rd r c z n A B V u m F I h1 h2 h3 h4 => ⟨_, _, 5, 185, by decide, by decide, c_better h1, r_better h2⟩)
theorem j_meets {t : Nat} {g f : Int} : Jn t 115 231 [pI g, pI f] := Jn_q (fun M N b rd r c z n A B V u m F I h1 h2 h3 h4 => ⟨_, _, 5, 186, by decide, by decide, c_meets h1, r_meets h2⟩)
theorem j_gate {t : Nat} : Jn t 119 237 [] := Jn_q (fun M N b rd r c z n A B V u m F I h1 h2 h3 h4 => ⟨_, _, 5, 186, by decide, by decide, c_gate h1, r_gate h2⟩)
theorem j_reach {t : Nat} {g : Int} : Jn t 117 235 [pI g] := Jn_q (fun M N b rd r c z n A B V u m F I h1 h2 h3 h4 => ⟨_, _, 5, 185, by decide, by decide, c_reach h1, r_reach h2⟩)
theorem j_frees {t : Nat} : Jn t 111 228 [] := Jn_q (fun M N b rd r c z n A B V u m F I h1 h2 h3 h4 => ⟨_, _, 6, 186, by decide, by decide, c_frees h1, r_frees h2⟩)
theorem j_goes {t : Nat} {f k g : Int} : Jn t 135 253 [pI f, pI k, pI g] := Jn_q (fun M N b rd r c z n A B V u m F I h1 h2 h3 h4 => ⟨_, _, 5, 186, by decide, by decide, c_goes h1, r_goes h2⟩)
theorem j_crowd {t : Nat} : Jn t 139 257 [] := Jn_q (fun M N b rd r c z n A B V u m F I h1 h2 h3 h4 => ⟨_, _, 5, 186, by decide, by decide, c_crowd h1, r_crowd h2⟩)
theorem j_fits {t : Nat} : Jn t 130 246 [] := Jn_q (fun M N b rd r c z n A B V u m F I h1 h2 h3 h4 => ⟨_, _, 6, 185, by decide, by decide, c_fits h1 h3, r_fits h2 h4⟩)
theorem j_look {t : Nat} : Jn t 132 248 [] := Jn_q (fun M N b rd r c z n A B V u m F I h1 h2 h3 h4 => ⟨_, _, 6, 186, by decide, by decide, c_look h1 h3, r_look h2 h4⟩)
theorem j_rests {t : Nat} {k : Int} : Jn t 140 258 [pI k] := Jn_q (fun M N b rd r c z n A B V u m F I h1 h2 h3 h4 => ⟨_, _, 3, 3, by decide, by decide, c_rests, r_rests h2⟩)
theorem j_gates {t : Nat} {k : Int} : Jn t 133 249 [pI k] := by
  intro P Q M N hR d hd
  obtain ⟨b, rd, r, c, z, n, A, B, V, u, U, K, m, F, I, T, ln, R, rfl, rfl, hC, hD, hU, hK⟩ := hR
  obtain ⟨x, P1, M1, e1, rfl, rfl, s1, s2, s3, s4⟩ := c_gates (b := b) (v := k) hC.2.2.2.2.2.2.2 d (by omega)
  obtain ⟨x', Q1, N1, e2, q2⟩ := r_gates (rd := rd) (v := k) hD.1 d (by omega)
  have hx' := q2.2.1
  obtain ⟨rd', hq⟩ := q2.1
  subst hx'
  refine ⟨_, _, M1, Q1, N1, e1, e2, b, rd', r, c, z, n, A, B, V, u, U, K, m, F, I, T, ln, (qGates k).2.getD R, rfl, hq, ?_, RelR_q hD q2, hU, hK⟩
  obtain ⟨h1, h2, h3, h4, h5, h6, h7, h8⟩ := hC
  have hs : ∀ p, p < 13 ∨ (29 ≤ p ∧ p < 145) ∨ p = qr b ∨ p = qr b + 1 → M1 p = M p := fun p hp => by
    have hqn := qr_n (b := b)
    have hq1 := qr_scr (b := b)
    rcases hp with hp | hp | hp | hp
    · exact s1 p (by unfold scr; omega) (by omega)
    · exact s1 p (by unfold scr; omega) (by omega)
    · rw [hp]; exact s1 _ hq1.1 (by omega)
    · rw [hp]; exact s1 _ hq1.2.1 (by omega)
  have hw : WdC M1 b r c z n A B V u := by
    obtain ⟨w1, w2, w3, w4, w5⟩ := h1
    refine ⟨GrC_cg w1 (hs 3 (by omega)) (hs 4 (by omega)), SnC_same w2 (fun p q1 q2 => hs p (by omega)), w3, RuV_same w4 (hs _ (by omega)) (hs _ (by omega)), ?_⟩
    rw [hs 1 (by omega)]; exact w5
  refine ⟨hw, UnC_sm h2 (fun p q1 q2 => hs p (by omega)), KpC_sm h3 (fun p q1 q2 => hs p (by omega)), ?_, TxC_sm h5 (by rw [hs 1 (by omega)]) (hs 2 (by omega)), ?_, by rw [hs 0 (by omega)]; exact h7, s2⟩
  · unfold PrC at h4 ⊢
    rw [hs 1 (by omega)]; exact h4
  · cases ho : (qGates k).2 with
    | none =>
      obtain ⟨a1, a2⟩ := s3 ho
      unfold ToC at h6 ⊢
      rw [a1, a2]; exact h6
    | some T' => exact s4 T' ho
