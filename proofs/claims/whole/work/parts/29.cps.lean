/-! runs with any end: what a run may end in, it ends in -/
abbrev GO : Type := (Nat × PL × List PV × KK × PM × MM) ⊕ ((Option PV × KK × PM × MM) ⊕ (KK × PM × MM))
def GK (G : GO → Prop) : KT := fun pc ls st κ P M => G (Sum.inl (pc, ls, st, κ, P, M))
def GQ (G : GO → Prop) : QT := fun r κ P M => G (Sum.inr (Sum.inl (r, κ, P, M)))
def GX (G : GO → Prop) : XT := fun κ P M => G (Sum.inr (Sum.inr (κ, P, M)))
def LN {α : Type} (F : (α → Prop) → Prop) : Prop := ∀ G, F G → ∃ a, G a ∧ ∀ G', G' a → F G'
theorem LN_k {α : Type} (a : α) : LN (fun G => G a) := fun _ h => ⟨a, h, fun _ h => h⟩
theorem LN_f {α : Type} : LN (fun _ : α → Prop => False) := fun _ h => h.elim
theorem LN_and {α : Type} {p : Prop} {F : (α → Prop) → Prop} (h : LN F) : LN (fun G => p ∧ F G) := fun _ q => by
  obtain ⟨a, h1, h2⟩ := h _ q.2
  exact ⟨a, h1, fun G' g => ⟨q.1, h2 G' g⟩⟩
theorem LN_or {α : Type} {F F' : (α → Prop) → Prop} (h : LN F) (h' : LN F') : LN (fun G => F G ∨ F' G) := fun _ q => by
  rcases q with q | q
  · obtain ⟨a, h1, h2⟩ := h _ q
    exact ⟨a, h1, fun G' g => Or.inl (h2 G' g)⟩
  · obtain ⟨a, h1, h2⟩ := h' _ q
    exact ⟨a, h1, fun G' g => Or.inr (h2 G' g)⟩
theorem LN_ex {α β : Type} {F : β → (α → Prop) → Prop} (h : ∀ b, LN (F b)) : LN (fun G => ∃ b, F b G) := fun _ q => by
  obtain ⟨b, q⟩ := q
  obtain ⟨a, h1, h2⟩ := h b _ q
  exact ⟨a, h1, fun G' g => ⟨b, h2 G' g⟩⟩
theorem LN_ite {α : Type} {c : Prop} (hc : Decidable c) {F F' : (α → Prop) → Prop} (h : LN F) (h' : LN F') : LN (fun G => if c then F G else F' G) := fun G q => by
  by_cases e : c
  · simp only [e, if_true] at q ⊢
    exact h G q
  · simp only [e, if_false] at q ⊢
    exact h' G q
theorem LN_br {α : Type} {c : Prop} {pc : Nat} {off : Int} {F : Nat → (α → Prop) → Prop} (h : ∀ t, LN (F t)) : LN (fun G => br c pc off (fun t => F t G)) := fun G q => by
  by_cases e : c
  · obtain ⟨a, h1, h2⟩ := h _ _ (q.2.1 e)
    exact ⟨a, h1, fun G' g => ⟨q.1, fun _ => h2 G' g, fun n => absurd e n⟩⟩
  · obtain ⟨a, h1, h2⟩ := h _ _ (q.2.2 e)
    exact ⟨a, h1, fun G' g => ⟨q.1, fun n => absurd n e, fun _ => h2 G' g⟩⟩
theorem LN_popI {α : Type} {st : List PV} {F : Int → List PV → (α → Prop) → Prop} (h : ∀ x s, LN (F x s)) : LN (fun G => popI st (fun x s => F x s G)) := fun G q => by
  obtain ⟨x, s, e, q⟩ := q
  obtain ⟨a, h1, h2⟩ := h x s _ q
  exact ⟨a, h1, fun G' g => ⟨x, s, e, h2 G' g⟩⟩
theorem LN_popL {α : Type} {st : List PV} {F : Int → List PV → (α → Prop) → Prop} (h : ∀ x s, LN (F x s)) : LN (fun G => popL st (fun x s => F x s G)) := fun G q => by
  obtain ⟨x, s, e, q⟩ := q
  obtain ⟨a, h1, h2⟩ := h x s _ q
  exact ⟨a, h1, fun G' g => ⟨x, s, e, h2 G' g⟩⟩
theorem LN_popR {α : Type} {st : List PV} {F : Nat → List PV → (α → Prop) → Prop} (h : ∀ x s, LN (F x s)) : LN (fun G => popR st (fun x s => F x s G)) := fun G q => by
  obtain ⟨x, s, e, q⟩ := q
  obtain ⟨a, h1, h2⟩ := h x s _ q
  exact ⟨a, h1, fun G' g => ⟨x, s, e, h2 G' g⟩⟩
theorem LN_popV {α : Type} {st : List PV} {F : PV → List PV → (α → Prop) → Prop} (h : ∀ x s, LN (F x s)) : LN (fun G => popV st (fun x s => F x s G)) := fun G q => by
  obtain ⟨x, s, e, q⟩ := q
  obtain ⟨a, h1, h2⟩ := h x s _ q
  exact ⟨a, h1, fun G' g => ⟨x, s, e, h2 G' g⟩⟩
theorem LN_getI {α : Type} {ls : PL} {i : Nat} {F : Int → (α → Prop) → Prop} (h : ∀ x, LN (F x)) : LN (fun G => getI ls i (fun x => F x G)) := fun G q => by
  obtain ⟨x, e, q⟩ := q
  obtain ⟨a, h1, h2⟩ := h x _ q
  exact ⟨a, h1, fun G' g => ⟨x, e, h2 G' g⟩⟩
theorem LN_getL {α : Type} {ls : PL} {i : Nat} {F : Int → (α → Prop) → Prop} (h : ∀ x, LN (F x)) : LN (fun G => getL ls i (fun x => F x G)) := fun G q => by
  obtain ⟨x, e, q⟩ := q
  obtain ⟨a, h1, h2⟩ := h x _ q
  exact ⟨a, h1, fun G' g => ⟨x, e, h2 G' g⟩⟩
theorem LN_getR {α : Type} {ls : PL} {i : Nat} {F : Nat → (α → Prop) → Prop} (h : ∀ x, LN (F x)) : LN (fun G => getR ls i (fun x => F x G)) := fun G q => by
  obtain ⟨x, e, q⟩ := q
  obtain ⟨a, h1, h2⟩ := h x _ q
  exact ⟨a, h1, fun G' g => ⟨x, e, h2 G' g⟩⟩
theorem LN_popA {α : Type} : ∀ (n : Nat) (acc st : List PV) {F : List PV → List PV → (α → Prop) → Prop}, (∀ x s, LN (F x s)) → LN (fun G => popA n acc st (fun x s => F x s G))
  | 0, acc, st, _, h => h acc st
  | _ + 1, _, [], _, _ => fun _ q => q.elim
  | n + 1, acc, v :: st, _, h => LN_popA n (v :: acc) st h
theorem LN_putV {α : Type} {M : MM} {P : PM} {o k t : Nat} {v : PV} {F : PM → MM → (α → Prop) → Prop} (h : ∀ x s, LN (F x s)) : LN (fun G => putV M P o k t v (fun x s => F x s G)) := by
  rcases v with x | x | x
  · exact LN_and (h _ _)
  · exact LN_and (h _ _)
  · exact LN_and (LN_and (h _ _))
theorem LN_kCall {α : Type} {E : CR} {y : Nat} {as st : List PV} {κ : KK} {P : PM} {M : MM} {F : List PV → KK → PM → MM → (α → Prop) → Prop} (h : ∀ a b c d, LN (F a b c d)) : LN (fun G => kCall E y as st κ P M (fun a b c d => F a b c d G)) := by
  unfold kCall
  exact LN_and (LN_ex fun _ => LN_ex fun _ => LN_ex fun _ => LN_ex fun _ => LN_ex fun _ => LN_and (LN_and (h _ _ _ _)))
theorem LN_kInv {α : Type} {E : CR} {c y : Nat} {st : List PV} {κ : KK} {P : PM} {M : MM} {F : List PV → KK → PM → MM → (α → Prop) → Prop} (h : ∀ a b c d, LN (F a b c d)) : LN (fun G => kInv E c y st κ P M (fun a b c d => F a b c d G)) := by
  unfold kInv
  refine LN_ite _ (LN_popA _ _ _ fun _ _ => LN_and (LN_kCall h)) (LN_ite _ (LN_popA _ _ _ fun _ _ => LN_kCall h) (LN_ite _ (LN_popA _ _ _ fun _ _ => LN_and (LN_kCall h)) (LN_ite _ (LN_popR fun _ _ => LN_and (h _ _ _ _)) (LN_ite _ (LN_popI fun _ _ => LN_popI fun _ _ => LN_and (h _ _ _ _)) (LN_ite _ (LN_popI fun _ _ => LN_popI fun _ _ => LN_and (h _ _ _ _)) (LN_ite _ (LN_popI fun _ _ => LN_and (h _ _ _ _)) (LN_ite _ ?_ LN_f)))))))
  exact LN_popI fun _ _ => LN_popI fun _ _ => LN_popR fun _ _ => LN_popI fun _ _ => LN_popR fun _ _ => LN_and (LN_ex fun _ => LN_ex fun _ => LN_and (LN_and (LN_and (LN_and (LN_and (LN_and (LN_and (h _ _ _ _))))))))
set_option maxHeartbeats 4000000 in
theorem LN_step {E : CR} {m : Nat} {i : Instr} {len pc : Nat} {ls : PL} {st : List PV} {κ : KK} {P : PM} {M : MM} : LN (fun G => stepP E m (GQ G) (GX G) i len pc ls st κ P M (GK G)) := by
  intro K h
  unfold stepP at h ⊢
  split at h
  all_goals first | exact h.elim | skip
  all_goals dsimp only
  all_goals revert K
  all_goals change LN _
  all_goals simp only [GK, GQ, GX]
  all_goals
    repeat' first
      | exact LN_k _
      | exact LN_f
      | refine LN_popI fun _ _ => ?_
      | refine LN_popL fun _ _ => ?_
      | refine LN_popR fun _ _ => ?_
      | refine LN_popV fun _ _ => ?_
      | refine LN_getI fun _ => ?_
      | refine LN_getL fun _ => ?_
      | refine LN_getR fun _ => ?_
      | refine LN_br fun _ => ?_
      | refine LN_putV fun _ _ => ?_
      | refine LN_kInv fun _ _ _ _ => ?_
      | refine LN_and ?_
      | refine LN_or ?_ ?_
      | refine LN_ex fun _ => ?_
theorem wp_ex {E : CR} {m : Nat} {Q : QT} {X : XT} {pc : Nat} {ls : PL} {st : List PV} {κ : KK} {P : PM} {M : MM} (h : wpB E m Q X pc ls st κ P M) : (∃ r κ' P' M', Q r κ' P' M' ∧ wpB E m (fun r1 κ1 P1 M1 => r1 = r ∧ κ1 = κ' ∧ P1 = P' ∧ M1 = M') (fun _ _ _ => False) pc ls st κ P M) ∨ (∃ κ' P' M', X κ' P' M' ∧ wpB E m (fun _ _ _ _ => False) (fun κ1 P1 M1 => κ1 = κ' ∧ P1 = P' ∧ M1 = M') pc ls st κ P M) := by
  refine h (fun pc ls st κ P M => (∃ r κ' P' M', Q r κ' P' M' ∧ wpB E m (fun r1 κ1 P1 M1 => r1 = r ∧ κ1 = κ' ∧ P1 = P' ∧ M1 = M') (fun _ _ _ => False) pc ls st κ P M) ∨ (∃ κ' P' M', X κ' P' M' ∧ wpB E m (fun _ _ _ _ => False) (fun κ1 P1 M1 => κ1 = κ' ∧ P1 = P' ∧ M1 = M') pc ls st κ P M)) ?_
  clear h pc ls st κ P M
  intro pc ls st κ P M h
  obtain ⟨i, len, h1, h2⟩ := h
  have h3 := LN_step (fun x => match x with
    | Sum.inl (pc, ls, st, κ, P, M) => (∃ r κ' P' M', Q r κ' P' M' ∧ wpB E m (fun r1 κ1 P1 M1 => r1 = r ∧ κ1 = κ' ∧ P1 = P' ∧ M1 = M') (fun _ _ _ => False) pc ls st κ P M) ∨ (∃ κ' P' M', X κ' P' M' ∧ wpB E m (fun _ _ _ _ => False) (fun κ1 P1 M1 => κ1 = κ' ∧ P1 = P' ∧ M1 = M') pc ls st κ P M)
    | Sum.inr (Sum.inl (r, κ, P, M)) => Q r κ P M
    | Sum.inr (Sum.inr (κ, P, M)) => X κ P M) h2
  obtain ⟨a, ha, hf⟩ := h3
  rcases a with ⟨pc', ls', st', κ', P', M'⟩ | ⟨r, κ', P', M'⟩ | ⟨κ', P', M'⟩
  · rcases ha with ⟨r, κ2, P2, M2, hq, hw⟩ | ⟨κ2, P2, M2, hq, hw⟩
    · refine Or.inl ⟨r, κ2, P2, M2, hq, wpB_fold ⟨i, len, h1, ?_⟩⟩
      exact hf (fun x => match x with
        | Sum.inl (pc, ls, st, κ, P, M) => wpB E m (fun r1 κ1 P1 M1 => r1 = r ∧ κ1 = κ2 ∧ P1 = P2 ∧ M1 = M2) (fun _ _ _ => False) pc ls st κ P M
        | Sum.inr (Sum.inl (r1, κ1, P1, M1)) => r1 = r ∧ κ1 = κ2 ∧ P1 = P2 ∧ M1 = M2
        | Sum.inr (Sum.inr (κ, P, M)) => False) hw
    · refine Or.inr ⟨κ2, P2, M2, hq, wpB_fold ⟨i, len, h1, ?_⟩⟩
      exact hf (fun x => match x with
        | Sum.inl (pc, ls, st, κ, P, M) => wpB E m (fun _ _ _ _ => False) (fun κ1 P1 M1 => κ1 = κ2 ∧ P1 = P2 ∧ M1 = M2) pc ls st κ P M
        | Sum.inr (Sum.inl (r1, κ1, P1, M1)) => False
        | Sum.inr (Sum.inr (κ1, P1, M1)) => κ1 = κ2 ∧ P1 = P2 ∧ M1 = M2) hw
  · refine Or.inl ⟨r, κ', P', M', ha, wpB_fold ⟨i, len, h1, ?_⟩⟩
    exact hf (fun x => match x with
      | Sum.inl (pc, ls, st, κ, P, M) => wpB E m (fun r1 κ1 P1 M1 => r1 = r ∧ κ1 = κ' ∧ P1 = P' ∧ M1 = M') (fun _ _ _ => False) pc ls st κ P M
      | Sum.inr (Sum.inl (r1, κ1, P1, M1)) => r1 = r ∧ κ1 = κ' ∧ P1 = P' ∧ M1 = M'
      | Sum.inr (Sum.inr (κ, P, M)) => False) ⟨rfl, rfl, rfl, rfl⟩
  · refine Or.inr ⟨κ', P', M', ha, wpB_fold ⟨i, len, h1, ?_⟩⟩
    exact hf (fun x => match x with
      | Sum.inl (pc, ls, st, κ, P, M) => wpB E m (fun _ _ _ _ => False) (fun κ1 P1 M1 => κ1 = κ' ∧ P1 = P' ∧ M1 = M') pc ls st κ P M
      | Sum.inr (Sum.inl (r1, κ1, P1, M1)) => False
      | Sum.inr (Sum.inr (κ1, P1, M1)) => κ1 = κ' ∧ P1 = P' ∧ M1 = M') ⟨rfl, rfl, rfl⟩
/-- a method's run ends as Post says -/
theorem Cw_q {k y : Nat} {as : List PV} {L : List (Nat × Nat)} {P : PM} {M : MM} {Post : Option PV → PM → MM → Prop} (ls : PL) (hn : (ent as).length ≤ mxl y) (hl : entL y as = ls) (h : ∀ d, k ≤ d → wpB (Ev d) y (fun r κ' P' M' => κ' = kz L ∧ Post r P' M') (fun _ _ _ => False) 0 ls [] (kz L) P M) : Cw (k + 1) y as L P M Post := by
  intro d hd
  obtain ⟨d, rfl⟩ : ∃ e, d = e + 1 := ⟨d - 1, by omega⟩
  rcases wp_ex (h d (by omega)) with ⟨r, κ', P', M', ⟨e, hp⟩, hw⟩ | ⟨_, _, _, hx, _⟩
  · subst e
    exact ⟨r, P', M', ⟨hn, by rw [hl]; exact hw⟩, hp⟩
  · exact hx.elim
theorem Cw_up {k k' y : Nat} {as : List PV} {L : List (Nat × Nat)} {P : PM} {M : MM} {Post : Option PV → PM → MM → Prop} (h : Cw k y as L P M Post) (hk : k ≤ k') : Cw k' y as L P M Post := fun d hd => h d (by omega)
theorem Cw_imp {k y : Nat} {as : List PV} {L : List (Nat × Nat)} {P : PM} {M : MM} {Post Post' : Option PV → PM → MM → Prop} (h : Cw k y as L P M Post) (hi : ∀ r P' M', Post r P' M' → Post' r P' M') : Cw k y as L P M Post' := fun d hd => by
  obtain ⟨r, P', M', h1, h2⟩ := h d hd
  exact ⟨r, P', M', h1, hi _ _ _ h2⟩
theorem Ct_w {k y : Nat} {as : List PV} {L : List (Nat × Nat)} {P : PM} {M : MM} {r : Option PV} {P' : PM} {M' : MM} (h : Ct k y as L P M r P' M') : Cw k y as L P M (fun r1 P1 M1 => r1 = r ∧ P1 = P' ∧ M1 = M') := fun d hd => ⟨r, P', M', h d hd, rfl, rfl, rfl⟩
/-- loops that count up -/
theorem lup {α : Type} {I G : Nat → α → Prop} (n : Nat) (h0 : ∀ x, I n x → G n x) (h1 : ∀ i x, i < n → I i x → (∀ y, I (i + 1) y → G (i + 1) y) → G i x) : ∀ i x, i ≤ n → I i x → G i x := by
  have key : ∀ j i x, i + j = n → I i x → G i x := by
    intro j
    induction j with
    | zero => intro i x e h; have : i = n := by omega
              subst this; exact h0 x h
    | succ j ih => intro i x e h; exact h1 i x (by omega) h (fun y hy => ih (i + 1) y (by omega) hy)
  exact fun i x hi h => key (n - i) i x (by omega) h
