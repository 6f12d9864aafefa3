/-! the relation between the class's memory and the reference's -/
def n0 : Nat → Int := fun _ => 0
def UnC (M : MM) (U : List (Nat → Int)) (B : Nat → Int) (z n : Nat) : Prop := ∃ nx, pastI M nx U.length ∧ ∀ k, k < U.length → SnC M (33 + 8 * ((nx + 11 - k) % 12)) (U.getD k n0) B z n
def UnR (M : MM) (U : List (Nat → Int)) : Prop := M 1 27 = (U.length : Int) ∧ U.length ≤ 12 ∧ ∀ k, k < U.length → ∀ i, i < 133 → M 13 (133 * (U.length - 1 - k) + i) = U.getD k n0 i
def KpC (M : MM) (K : Nat → Option (Nat → Int)) (B : Nat → Int) (z n : Nat) : Prop := ∀ i, i < 2 → (K i = none → M 32 i = 0) ∧ ∀ A', K i = some A' → M 32 i = 1 ∧ SnC M (129 + 8 * i) A' B z n
def KpR (M : MM) (K : Nat → Option (Nat → Int)) (t : Nat) : Prop := (∃ cm : Nat, M 1 40 = (cm : Int) ∧ cm ≤ t ∧ ∀ i, i < 2 → M 23 i ≤ (cm : Int)) ∧ ∀ i, i < 2 → ((M 22 i ≠ 0 ∧ M 23 i = M 1 40) ↔ K i ≠ none) ∧ ∀ A', K i = some A' → ∀ j, j < 133 → M 21 (133 * i + j) = A' j
def SnO (B : Nat → Int) (z n : Nat) (A : Nat → Int) : Prop := SnV A B z n ∧ LkV A z
def VlU (U : List (Nat → Int)) (B : Nat → Int) (z n : Nat) : Prop := ∀ k, k < U.length → SnO B z n (U.getD k n0)
def VlK (K : Nat → Option (Nat → Int)) (B : Nat → Int) (z n : Nat) : Prop := ∀ i A', i < 2 → K i = some A' → SnO B z n A'
def RelC (M : MM) (b : Bool) (r c z n : Nat) (A B : Nat → Int) (V : GV) (u : Int) (U : List (Nat → Int)) (K : Nat → Option (Nat → Int)) (m : Nat) (F : Nat → Nat) (I : Nat → Bool) (T : Nat → Int) (ln : Nat) (R : List Int) : Prop := WdC M b r c z n A B V u ∧ UnC M U B z n ∧ KpC M K B z n ∧ PrC M z m F I ∧ TxC M T ln ∧ ToC M R ∧ (∀ j, j < 13 → M 0 j = plT j) ∧ M 174 0 = 0
def RelR (M : MM) (t r c z n : Nat) (A B : Nat → Int) (V : GV) (u : Int) (U : List (Nat → Int)) (K : Nat → Option (Nat → Int)) (m : Nat) (F : Nat → Nat) (I : Nat → Bool) (T : Nat → Int) (ln : Nat) (R : List Int) : Prop := WdR M 7 r c z n A B V u ∧ UnR M U ∧ KpR M K t ∧ PrR M z m F I ∧ TxR M T ln ∧ ToR M R
def Rel (t : Nat) (P Q : PM) (M N : MM) : Prop := ∃ b rd r c z n A B V u U K m F I T ln R, P = PC b ∧ Q = PR rd 7 ∧ RelC M b r c z n A B V u U K m F I T ln R ∧ RelR N t r c z n A B V u U K m F I T ln R ∧ VlU U B z n ∧ VlK K B z n
/-- y of the class and y' of the reference answer alike and keep the relation -/
def Jn (t y y' : Nat) (as : List PV) : Prop := ∀ P Q M N, Rel t P Q M N → ∀ d, 200 ≤ d → ∃ v P' M' Q' N', Ev d y (pR 1 :: as) (kz LC) P M (some v) (kz LC) P' M' ∧ Ev d y' (pR 1 :: as) (kz LR) Q N (some v) (kz LR) Q' N' ∧ Rel (t + 1) P' Q' M' N'
section
variable {M M' N N' : MM} {b : Bool} {t r c z n : Nat} {A B : Nat → Int} {V : GV} {u : Int} {U : List (Nat → Int)} {K : Nat → Option (Nat → Int)} {m : Nat} {F : Nat → Nat} {I : Nat → Bool} {T : Nat → Int} {ln : Nat} {R : List Int}
theorem UnC_sm (h : UnC M U B z n) (hs : ∀ p, 29 ≤ p → p < 145 → M' p = M p) : UnC M' U B z n := by
  obtain ⟨nx, h1, h2⟩ := h
  refine ⟨nx, ?_, fun k hk => SnC_same (h2 k hk) (fun p q1 q2 => hs p (by omega) (by omega))⟩
  unfold pastI at h1 ⊢
  rw [hs 29 (by decide) (by decide)]; exact h1
theorem KpC_sm (h : KpC M K B z n) (hs : ∀ p, 29 ≤ p → p < 145 → M' p = M p) : KpC M' K B z n := by
  intro i hi
  obtain ⟨h1, h2⟩ := h i hi
  rw [hs 32 (by decide) (by decide)]
  exact ⟨h1, fun A' e => ⟨(h2 A' e).1, SnC_same (h2 A' e).2 (fun p q1 q2 => hs p (by omega) (by omega))⟩⟩
theorem TxC_sm (h : TxC M T ln) (h1 : M' 1 1 = M 1 1) (h2 : M' 2 = M 2) : TxC M' T ln := by
  unfold TxC at h ⊢
  rw [h1, h2]; exact h
theorem UnR_fr {S S' : List Nat} (h : UnR M U) (hf : Fr S S' M M') (h1 : 27 ∉ S) (h2 : 13 ∉ S') : UnR M' U := by
  unfold UnR at h ⊢
  rw [hf.1 27 h1, hf.2 13 (by decide) h2]; exact h
theorem KpR_fr {S S' : List Nat} (h : KpR M K t) (hf : Fr S S' M M') (h1 : 40 ∉ S) (h2 : 21 ∉ S' ∧ 22 ∉ S' ∧ 23 ∉ S') : KpR M' K t := by
  unfold KpR at h ⊢
  rw [hf.1 40 h1, hf.2 21 (by decide) h2.1, hf.2 22 (by decide) h2.2.1, hf.2 23 (by decide) h2.2.2]; exact h
theorem KpR_t (h : KpR M K t) : KpR M K (t + 1) := by
  obtain ⟨⟨cm, a1, a2, a3⟩, h2⟩ := h
  exact ⟨⟨cm, a1, by omega, a3⟩, h2⟩
theorem TxR_fr {S S' : List Nat} (h : TxR M T ln) (hf : Fr S S' M M') (h1 : 7 ∉ S) (h2 : 4 ∉ S') : TxR M' T ln := by
  unfold TxR at h ⊢
  rw [hf.1 7 h1, hf.2 4 (by decide) h2]; exact h
/-- a question's memory -/
theorem RelC_q {v : PV} {o : Option (List Int)} {x : Option PV} {P' : PM} (h : RelC M b r c z n A B V u U K m F I T ln R) (hq : QC b M v o x P' M') : RelC M' b r c z n A B V u U K m F I T ln (o.getD R) := by
  obtain ⟨h1, h2, h3, h4, h5, h6, h7, h8⟩ := h
  obtain ⟨_, _, hs, hn, ht⟩ := hq
  refine ⟨WdC_sq h1 hs, UnC_sm h2 (fun p q1 q2 => hs p (by unfold scr; omega)), KpC_sm h3 (fun p q1 q2 => hs p (by unfold scr; omega)), PrC_sq h4 hs, TxC_sm h5 (by rw [hs 1 (by unfold scr; omega)]) (hs 2 (by unfold scr; omega)), ?_, by rw [hs 0 (by unfold scr; omega)]; exact h7, by rw [hs 174 (by unfold scr; omega)]; exact h8⟩
  cases o with
  | none =>
    obtain ⟨a1, a2⟩ := hn rfl
    unfold ToC at h6 ⊢
    rw [a1, a2]; exact h6
  | some T' => exact ht T' rfl
theorem RelR_q {v : PV} {o : Option (List Int)} {th : Int} {x : Option PV} {P' : PM} (h : RelR M t r c z n A B V u U K m F I T ln R) (hq : QRt 7 M v o th x P' M') : RelR M' (t + 1) r c z n A B V u U K m F I T ln (o.getD R) := by
  obtain ⟨h1, h2, h3, h4, h5, h6⟩ := h
  obtain ⟨_, _, hf, _, hn, ht⟩ := hq
  refine ⟨WdR_fr h1 hf, UnR_fr h2 hf (by decide) (by decide), KpR_t (KpR_fr h3 hf (by decide) (by decide)), PrR_fr h4 hf, TxR_fr h5 hf (by decide) (by decide), ?_⟩
  cases o with
  | none =>
    obtain ⟨a1, a2⟩ := hn rfl
    unfold ToR at h6 ⊢
    rw [a1, a2]; exact h6
  | some T' => exact ht T' rfl
theorem Jn_q {y y' : Nat} {as : List PV} (h : ∀ (M N : MM) (b : Bool) (rd r c z n : Nat) (A B : Nat → Int) (V : GV) (u : Int) (m : Nat) (F : Nat → Nat) (I : Nat → Bool), WdC M b r c z n A B V u → WdR N 7 r c z n A B V u → PrC M z m F I → PrR N z m F I → ∃ v o k k', k ≤ 200 ∧ k' ≤ 200 ∧ Cw k y (pR 1 :: as) LC (PC b) M (QC b M v o) ∧ Cw k' y' (pR 1 :: as) LR (PR rd 7) N (QRt 7 N v o 0)) : Jn t y y' as := by
  intro P Q M N hR d hd
  obtain ⟨b, rd, r, c, z, n, A, B, V, u, U, K, m, F, I, T, ln, R, rfl, rfl, hC, hD, hU, hK⟩ := hR
  obtain ⟨v, o, k, k', hk, hk', h1, h2⟩ := h M N b rd r c z n A B V u m F I hC.1 hD.1 hC.2.2.2.1 hD.2.2.2.1
  obtain ⟨x, P1, M1, e1, q1⟩ := h1 d (by omega)
  obtain ⟨x', Q1, N1, e2, q2⟩ := h2 d (by omega)
  have hx : x = some v := q1.2.1
  have hx' : x' = some v := q2.2.1
  obtain ⟨rd', hq⟩ := q2.1
  subst hx; subst hx'
  exact ⟨v, P1, M1, Q1, N1, e1, e2, b, rd', r, c, z, n, A, B, V, u, U, K, m, F, I, T, ln, o.getD R, q1.1, hq, RelC_q hC q1, RelR_q hD q2, hU, hK⟩
end
