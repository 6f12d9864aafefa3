/-! the law: answers by their type; calls on either world -/
def rtO (m : Nat) (r : Option PV) : Prop := ((rty m = some .int ∨ rty m = some .boolean) → ∃ x, r = some (pI x)) ∧ (rty m = some .long → ∃ x, r = some (pL x))
theorem stepP_rt {E : CR} {m : Nat} {Q : QT} {X : XT} {i : Instr} {len pc : Nat} {ls : PL} {st : List PV} {κ : KK} {P : PM} {M : MM} {K : KT} (h : stepP E m Q X i len pc ls st κ P M K) : stepP E m (fun r κ P M => Q r κ P M ∧ rtO m r) X i len pc ls st κ P M K := by
  unfold stepP at h ⊢
  split at h
  all_goals first
    | exact h
    | exact h.elim
    | skip
  · obtain ⟨a, x, s, e, b, c, q⟩ := h
    refine ⟨a, x, s, e, b, c, q, fun _ => ⟨x, rfl⟩, fun w => ?_⟩
    rcases c with c | c
    · rw [c] at w; cases w
    · rw [c.1] at w; cases w
  · obtain ⟨a, x, s, e, b, c, q⟩ := h
    refine ⟨a, x, s, e, b, c, q, fun w => ?_, fun _ => ⟨x, rfl⟩⟩
    rw [c] at w
    rcases w with w | w <;> cases w
  · obtain ⟨a, x, s, e, b, c, q⟩ := h
    refine ⟨a, x, s, e, b, c, q, fun w => ?_, fun w => ?_⟩
    · rw [c] at w
      rcases w with w | w <;> cases w
    · rw [c] at w; cases w
  · obtain ⟨a, b, c, q⟩ := h
    refine ⟨a, b, c, q, fun w => ?_, fun w => ?_⟩
    · rw [c] at w
      rcases w with w | w <;> cases w
    · rw [c] at w; cases w
theorem wpB_rt {E : CR} {m : Nat} {Q : QT} {X : XT} {pc : Nat} {ls : PL} {st : List PV} {κ : KK} {P : PM} {M : MM} (h : wpB E m Q X pc ls st κ P M) : wpB E m (fun r κ P M => Q r κ P M ∧ rtO m r) X pc ls st κ P M :=
  h (wpB E m (fun r κ P M => Q r κ P M ∧ rtO m r) X) (fun _ _ _ _ _ _ q => wpB_fold (by
    obtain ⟨i, len, h1, h2⟩ := q
    exact ⟨i, len, h1, stepP_rt h2⟩))
theorem Ev_rt {d y : Nat} {as : List PV} {κ : KK} {P : PM} {M : MM} {r : Option PV} {κ' : KK} {P' : PM} {M' : MM} (h : Ev d y as κ P M r κ' P' M') : rtO y r := by
  cases d with
  | zero => exact h.elim
  | succ d =>
    rcases wp_ex (wpB_rt h.2) with ⟨r1, _, _, _, ⟨⟨rfl, _, _, _⟩, hr⟩, _⟩ | ⟨_, _, _, hx, _⟩
    · exact hr
    · exact hx.elim
/-- both worlds, and the law's own array of one long -/
def Both (D : va_G) (s : State) (H : Heap) (q1 q2 oa : Nat) (P : PM) (M : MM) (Q : PM) (N : MM) (xo : Int64) : Prop := ∃ (ad1 : Nat → Nat) (cA1 : Nat → ClassId) (ad2 : Nat → Nat) (cA2 : Nat → ClassId) (cO : ClassId) (f : Nat → Int64), Wd D s H ad1 cA1 LC P M ∧ Wd D s H ad2 cA2 LR Q N ∧ (ad1 1 = q1 ∧ ad2 1 = q2) ∧ (va_P D cls [(oa, .inl (cO, 1, .inr (.inl f)))] H ∧ s.heap.size ≤ oa ∧ va_K D cls [(cO, .long)] s ∧ f 0 = xo) ∧ (∀ q, aOf (wsOf ad1 cA1 (kz LC) P M) q → ¬ aOf (wsOf ad2 cA2 (kz LR) Q N) q) ∧ ¬ aOf (wsOf ad1 cA1 (kz LC) P M) oa ∧ ¬ aOf (wsOf ad2 cA2 (kz LR) Q N) oa
theorem Wd_kept {D : va_G} {s : State} {H H' : Heap} {ad : Nat → Nat} {cA : Nat → ClassId} {L : List (Nat × Nat)} {P : PM} {M : MM} (h : Wd D s H ad cA L P M) (hk : ∀ q, aOf (wsOf ad cA (kz L) P M) q → H'[q]? = H[q]?) : Wd D s H' ad cA L P M := ⟨h.1.kept (fun k q hq => hk q.1 ⟨k, q.2, hq⟩), h.2⟩
def iV (x : Int32) : PV := pI x.toInt
theorem iV_val {ad : Nat → Nat} (x : Int32) : val ad (iV x) = .int x := by
  show Value.int (Int32.ofInt x.toInt) = .int x
  rw [Int32.ofInt_toInt]
theorem iV_ok {κ : KK} (x : Int32) : vok κ (iV x) := by
  show r32 x.toInt
  unfold r32
  exact ⟨x.le_toInt, x.toInt_lt⟩
theorem iV_map {ad : Nat → Nat} : ∀ (xs : List Int32), (xs.map iV).map (val ad) = xs.map Value.int
  | [] => rfl
  | x :: xs => by
    show val ad (iV x) :: (xs.map iV).map (val ad) = Value.int x :: xs.map Value.int
    rw [iV_val, iV_map xs]
section
variable {p : Program} {l : Launch} {e : Env} {s : State} {m : MethodId} {args : Array Value} {below : List Frame} {meth : Method} {c : Code} {D : va_G} {QQ : State → Prop} {pc d y idx q1 q2 oa : Nat} {P P' Q Q' : PM} {M M' N N' : MM} {r : Option PV} {H : Heap} {locs : List Loc} {cells slots : Nat} {ls : Array Slot} {rest : List Value} {xs : List Int32} {xo : Int64}
theorem lw_call1 (G : Lx p s m c args) (hB : Both D s H q1 q2 oa P M Q N xo) (hy : y < 271 ∧ (mpl y).2.1 ≠ 1 ∧ (mN y).name ≠ "<init>" ∧ mow y = 10) (hwk : Cond.methodLink R_lw idx (mN y) ∈ GW) (hd : decode code pc = .ok (.invokevirtual idx, 3)) (has : xs.length = nar y) (hs4 : (rest.map fun v => v.category).sum ≤ 8) (hE : Ev d y (pR 1 :: xs.map iV) (kz LC) P M r (kz LC) P' M') (hd9 : d ≤ 1000) (hcs : cells ≤ 601024 ∧ slots ≤ 7293034) (hS : va_S (AS s) s.heap H locs) (hl : ls.size = 8) (hr : ∀ v, r = some v → ∀ o, v ≠ pR o) (h : ∀ (H' : Heap) (locs' : List Loc), Both D s H' q1 q2 oa P' M' Q N xo → va_S (AS s) s.heap H' locs' → W p l e room_1 s m args below meth c H' locs' cells slots QQ (F0 m (pc + 3) ls ((r.map (val (fun _ => 0))).toList ++ rest))) : W p l e room_1 s m args below meth c H locs cells slots QQ (F0 m pc ls ((xs.map Value.int).reverse ++ .ref q1 :: rest)) := by
  obtain ⟨ad1, cA1, ad2, cA2, cO, f, w1, w2, ⟨rfl, rfl⟩, ⟨o1, o2, o3, o4⟩, d1, d2, d3⟩ := hB
  have := lw_virt (as := xs.map iV) (o := 1) (QQ := QQ) (e := e) (below := below) (meth := meth) (l := l) G hy.1 hy.2.1 hy.2.2.1 (by rw [hy.2.2.2]; decide) hwk hd (by simpa using has) (by rw [hy.2.2.2]; rfl) hs4 hE hd9 hcs w1 hS (fun v hv => by
    obtain ⟨x, _, rfl⟩ := List.mem_map.mp hv
    exact iV_ok x) hl (fun ad' cA' H' locs' h1 h2 h3 h4 h5 h6 => ?_)
  · rw [iV_map] at this; exact this
  · have hk2 : ∀ q, aOf (wsOf ad2 cA2 (kz LR) Q N) q → H'[q]? = H[q]? := fun q hq => h4 q (Wd_lt w2 hq).1 (fun w => d1 q w hq)
    have hoa : oa < H.size := va_at_lt (o1 0 _ rfl)
    have hko : H'[oa]? = H[oa]? := h4 oa hoa d2
    have hv : (r.map (val ad')) = r.map (val (fun _ => 0)) := by
      cases r with
      | none => rfl
      | some v =>
        rcases v with x | x | x
        · rfl
        · rfl
        · exact absurd rfl (hr _ rfl x)
    rw [hv]
    refine h H' locs' ⟨ad', cA', ad2, cA2, cO, f, h2, Wd_kept w2 hk2, ⟨h1 1 (by decide +kernel), rfl⟩, ⟨o1.kept (fun k q hq => ?_), o2, o3, o4⟩, fun q hq hq2 => ?_, fun hq => ?_, d3⟩ h6
    · cases k with
      | zero => cases hq; exact hko
      | succ k => cases hq
    · rcases h5 q hq with w | w
      · exact d1 q w hq2
      · have := (Wd_lt w2 hq2).1; omega
    · rcases h5 oa hq with w | w
      · exact d2 w
      · omega
theorem lw_call2 (G : Lx p s m c args) (hB : Both D s H q1 q2 oa P M Q N xo) (hy : y < 271 ∧ (mpl y).2.1 ≠ 1 ∧ (mN y).name ≠ "<init>" ∧ mow y = 11) (hwk : Cond.methodLink R_lw idx (mN y) ∈ GW) (hd : decode code pc = .ok (.invokevirtual idx, 3)) (has : xs.length = nar y) (hs4 : (rest.map fun v => v.category).sum ≤ 8) (hE : Ev d y (pR 1 :: xs.map iV) (kz LR) Q N r (kz LR) Q' N') (hd9 : d ≤ 1000) (hcs : cells ≤ 601024 ∧ slots ≤ 7293034) (hS : va_S (AS s) s.heap H locs) (hl : ls.size = 8) (hr : ∀ v, r = some v → ∀ o, v ≠ pR o) (h : ∀ (H' : Heap) (locs' : List Loc), Both D s H' q1 q2 oa P M Q' N' xo → va_S (AS s) s.heap H' locs' → W p l e room_1 s m args below meth c H' locs' cells slots QQ (F0 m (pc + 3) ls ((r.map (val (fun _ => 0))).toList ++ rest))) : W p l e room_1 s m args below meth c H locs cells slots QQ (F0 m pc ls ((xs.map Value.int).reverse ++ .ref q2 :: rest)) := by
  obtain ⟨ad1, cA1, ad2, cA2, cO, f, w1, w2, ⟨rfl, rfl⟩, ⟨o1, o2, o3, o4⟩, d1, d2, d3⟩ := hB
  have := lw_virt (as := xs.map iV) (o := 1) (QQ := QQ) (e := e) (below := below) (meth := meth) (l := l) G hy.1 hy.2.1 hy.2.2.1 (by rw [hy.2.2.2]; decide) hwk hd (by simpa using has) (by rw [hy.2.2.2]; rfl) hs4 hE hd9 hcs w2 hS (fun v hv => by
    obtain ⟨x, _, rfl⟩ := List.mem_map.mp hv
    exact iV_ok x) hl (fun ad' cA' H' locs' h1 h2 h3 h4 h5 h6 => ?_)
  · rw [iV_map] at this; exact this
  · have hk1 : ∀ q, aOf (wsOf ad1 cA1 (kz LC) P M) q → H'[q]? = H[q]? := fun q hq => h4 q (Wd_lt w1 hq).1 (fun w => d1 q hq w)
    have hoa : oa < H.size := va_at_lt (o1 0 _ rfl)
    have hko : H'[oa]? = H[oa]? := h4 oa hoa d3
    have hv : (r.map (val ad')) = r.map (val (fun _ => 0)) := by
      cases r with
      | none => rfl
      | some v =>
        rcases v with x | x | x
        · rfl
        · rfl
        · exact absurd rfl (hr _ rfl x)
    rw [hv]
    refine h H' locs' ⟨ad1, cA1, ad', cA', cO, f, Wd_kept w1 hk1, h2, ⟨rfl, h1 1 (by decide +kernel)⟩, ⟨o1.kept (fun k q hq => ?_), o2, o3, o4⟩, fun q hq hq2 => ?_, d2, fun hq => ?_⟩ h6
    · cases k with
      | zero => cases hq; exact hko
      | succ k => cases hq
    · rcases h5 q hq2 with w | w
      · exact d1 q hq w
      · have := (Wd_lt w1 hq).1; omega
    · rcases h5 oa hq with w | w
      · exact d3 w
      · omega
end
