/-! THE PURE MACHINE IS SOUND -/
section HM
variable {p : Program} {l : Launch} {e : Env} {R : Room} {s : State} {m : MethodId} {args : Array Value} {below : List Frame} {meth : Method} {c : Code} {mi d : Nat} {z : Nat × (Nat → Nat)} {D : va_G} {A : Nat → Prop} {QQ : State → Prop} {E : CR} {Q : QT} {X : XT} {pc : Nat} {pl : PL} {st : List PV} {κ : KK} {P : PM} {M : MM}
/-- what is asked of the end of a method -/
def RetOk (p : Program) (l : Launch) (e : Env) (R : Room) (s : State) (m : MethodId) (args : Array Value) (below : List Frame) (meth : Method) (c : Code) (mi : Nat) (z : Nat × (Nat → Nat)) (D : va_G) (A : Nat → Prop) (QQ : State → Prop) (Q : QT) : Prop :=
  ∀ (r : Option PV) (κ : KK) (P : PM) (M : MM), Q r κ P M → ∀ (pc : Nat) (ad : Nat → Nat) (cA : Nat → ClassId) (tys : List (ClassId × FieldType)) (H : Heap) (locs : List Loc) (cells slots : Nat) (ls : Array Slot), Inv z D A R s ad cA tys κ P M H locs cells slots → (∀ v, r = some v → vok κ v) →
    ((∃ x, r = some (pI x) ∧ decode (cod mi) pc = .ok (.ireturn, 1) ∧ (rty mi = some .int ∨ (rty mi = some .boolean ∧ (x = 0 ∨ x = 1)))) ∨ (∃ x, r = some (pL x) ∧ decode (cod mi) pc = .ok (.lreturn, 1) ∧ rty mi = some .long) ∨ (∃ x, r = some (pR x) ∧ decode (cod mi) pc = .ok (.areturn, 1) ∧ rty mi = some (.object "BuriedWithIt$Path")) ∨ (r = none ∧ decode (cod mi) pc = .ok (.return_, 1) ∧ rty mi = none)) →
    W p l e R s m args below meth c H locs cells slots QQ (F0 m pc ls (r.toList.map (val ad)))
def ThrOk (p : Program) (l : Launch) (e : Env) (R : Room) (s : State) (m : MethodId) (args : Array Value) (below : List Frame) (meth : Method) (c : Code) (mi : Nat) (z : Nat × (Nat → Nat)) (D : va_G) (A : Nat → Prop) (QQ : State → Prop) (X : XT) : Prop :=
  ∀ (κ : KK) (P : PM) (M : MM), X κ P M → mow mi = 10 → ∀ (pc : Nat), decode (cod mi) pc = .ok (.new 157, 3) → ∀ pl st, Snd p l e R s m args below meth c mi z D A QQ pc pl st κ P M
theorem snd_at (G : Gx p R s m args meth c mi A) (hE : ∀ y as κ P M r κ' P' M', E y as κ P M r κ' P' M' → Ctr l d y as κ P M r κ' P' M') (hR : d + 2 ≤ R.frames ∧ 120 + 60 * d ≤ R.locals) (hQ : RetOk p l e R s m args below meth c mi z D A QQ Q) (hX : ThrOk p l e R s m args below meth c mi z D A QQ X) (h : stepAt E mi Q X pc pl st κ P M (Snd p l e R s m args below meth c mi z D A QQ)) : Snd p l e R s m args below meth c mi z D A QQ pc pl st κ P M := by
  obtain ⟨i, len, hd, h⟩ := h
  by_cases hS : isS i = true
  · exact snd_simple G hS hd h
  cases i
  case getfield => exact snd_get G hd h
  case putfield => exact snd_put G hd h
  case getstatic => exact snd_gst G hd h
  case arraylength => exact snd_alen G hd h
  case iaload => exact snd_iald G hd h
  case baload => exact snd_bald G hd h
  case caload => exact snd_cald G hd h
  case laload => exact snd_lald G hd h
  case aaload => exact snd_aald G hd h
  case iastore => exact snd_iast G hd h
  case bastore => exact snd_bast G hd h
  case castore => exact snd_cast G hd h
  case lastore => exact snd_last G hd h
  case aastore => exact snd_aast G hd h
  case newarray => exact snd_newa G hd h
  case anewarray => exact snd_newq G hd h
  case new ix => exact snd_new G (fun κ2 P2 M2 hx9 hm9 h157 pl2 st2 => by
    have hl3 : len = 3 := h.1
    subst h157
    subst hl3
    exact hX κ2 P2 M2 hx9 hm9 pc hd pl2 st2) hd h
  case invokevirtual => exact snd_virtual G hE hR hd h
  case invokestatic => exact snd_static G hE hR hd h
  case invokespecial => exact snd_special G hE hR hd h
  case ireturn =>
    obtain ⟨rfl, x, st1, rfl, rfl, hr, h⟩ := h
    intro ad cA tys H locs cells slots ls I hl hn hst hpl
    exact hQ _ _ _ _ h pc ad cA tys H locs cells slots ls I (fun v hv => by cases hv; exact vh1 hst) (Or.inl ⟨x, rfl, hd, hr⟩)
  case lreturn =>
    obtain ⟨rfl, x, st1, rfl, rfl, hr, h⟩ := h
    intro ad cA tys H locs cells slots ls I hl hn hst hpl
    exact hQ _ _ _ _ h pc ad cA tys H locs cells slots ls I (fun v hv => by cases hv; exact vh1 hst) (Or.inr (Or.inl ⟨x, rfl, hd, hr⟩))
  case areturn =>
    obtain ⟨rfl, x, st1, rfl, rfl, hr, h⟩ := h
    intro ad cA tys H locs cells slots ls I hl hn hst hpl
    exact hQ _ _ _ _ h pc ad cA tys H locs cells slots ls I (fun v hv => by cases hv; exact vh1 hst) (Or.inr (Or.inr (Or.inl ⟨x, rfl, hd, hr⟩)))
  case return_ =>
    obtain ⟨rfl, rfl, hr, h⟩ := h
    intro ad cA tys H locs cells slots ls I hl hn hst hpl
    exact hQ _ _ _ _ h pc ad cA tys H locs cells slots ls I (fun v hv => by cases hv) (Or.inr (Or.inr (Or.inr ⟨rfl, hd, hr⟩)))
  all_goals first | (exact absurd rfl hS) | exact False.elim h
theorem snd_all (G : Gx p R s m args meth c mi A) (hE : ∀ y as κ P M r κ' P' M', E y as κ P M r κ' P' M' → Ctr l d y as κ P M r κ' P' M') (hR : d + 2 ≤ R.frames ∧ 120 + 60 * d ≤ R.locals) (hQ : RetOk p l e R s m args below meth c mi z D A QQ Q) (hX : ThrOk p l e R s m args below meth c mi z D A QQ X) (h : wpB E mi Q X pc pl st κ P M) : Snd p l e R s m args below meth c mi z D A QQ pc pl st κ P M :=
  h _ (fun _ _ _ _ _ _ q => snd_at G hE hR hQ hX q)
end HM
theorem ent_get : ∀ (as : List PV) (ad : Nat → Nat) (i j : Nat) (v : PV), (ent as)[j]? = some (some v) → (i + j, val ad v) ∈ lv_args i (as.map (val ad))
  | [], _, _, _, _, h => by simp [ent] at h
  | w :: as, ad, i, j, v, h => by
    unfold ent at h
    cases hw : isL w with
    | true =>
      rw [hw] at h
      simp only [if_true] at h
      show _ ∈ (i, val ad w) :: lv_args (if (val ad w).category = 2 then i + 2 else i + 1) (as.map (val ad))
      rw [val_cat, hw]
      simp only [if_true]
      rcases j with _ | _ | j
      · simp at h; subst h; exact List.mem_cons_self
      · simp at h
      · simp only [List.getElem?_cons_succ] at h
        have := ent_get as ad (i + 2) j v h
        rw [show i + (j + 1 + 1) = i + 2 + j by omega]
        exact List.mem_cons_of_mem _ this
    | false =>
      rw [hw] at h
      simp only [Bool.false_eq_true, if_false] at h
      show _ ∈ (i, val ad w) :: lv_args (if (val ad w).category = 2 then i + 2 else i + 1) (as.map (val ad))
      rw [val_cat, hw]
      simp only [Bool.false_eq_true, if_false]
      rcases j with _ | j
      · simp at h; subst h; exact List.mem_cons_self
      · simp only [List.getElem?_cons_succ] at h
        have := ent_get as ad (i + 1) j v h
        rw [show i + (j + 1) = i + 1 + j by omega]
        exact List.mem_cons_of_mem _ this
theorem ent_len : ∀ (as : List PV) (ad : Nat → Nat), (lg_sl (as.map (val ad))).length = (ent as).length
  | [], _ => rfl
  | w :: as, ad => by
    have ih := ent_len as ad
    unfold ent
    have e1 : lg_sl ((w :: as).map (val ad)) = (if (val ad w).category = 2 then [Slot.val (val ad w), .second] else [.val (val ad w)]) ++ lg_sl (as.map (val ad)) := rfl
    rw [e1, val_cat]
    cases isL w <;> simp [ih]
theorem ent_mem : ∀ (as : List PV) (v : PV), some v ∈ ent as → v ∈ as
  | [], v, h => by simp [ent] at h
  | w :: as, v, h => by
    unfold ent at h
    cases hw : isL w <;> rw [hw] at h <;> simp at h
    · rcases h with rfl | h
      · exact List.mem_cons_self
      · exact List.mem_cons_of_mem _ (ent_mem as v h)
    · rcases h with rfl | h
      · exact List.mem_cons_self
      · exact List.mem_cons_of_mem _ (ent_mem as v h)
theorem entL_get {m : Nat} {as : List PV} {j : Nat} {v : PV} (h : (entL m as)[j]? = some (some v)) : (ent as)[j]? = some (some v) := by
  unfold entL at h
  rw [List.getElem?_append] at h
  split at h
  · exact h
  · have := List.mem_of_getElem? h
    have := (List.mem_replicate.mp this).2
    cases this
/-- what a run of the pure machine says of the method itself -/
theorem Ev_sound (l : Launch) : ∀ (d y : Nat) (as : List PV) (κ : KK) (P : PM) (M : MM) (r : Option PV) (κ' : KK) (P' : PM) (M' : MM), Ev (d + 1) y as κ P M r κ' P' M' → (∀ y as κ P M r κ' P' M', Ev d y as κ P M r κ' P' M' → Ctr l d y as κ P M r κ' P' M') → Ctr l (d + 1) y as κ P M r κ' P' M' := by
  intro d y as κ P M r κ' P' M' h hE hy D ad cA tys sz
  obtain ⟨hal, h⟩ := h
  obtain ⟨f1, f2, f3, f4, f5, f6⟩ := m_facts hy
  refine Met.ofW (cc := cod y) (maxL := mxl y) (ret := rty y) f3 rfl ?_
  intro p e s m args below meth c s₁ B hml hv
  obtain ⟨rfl, hsz, hK, hP, hD0, hT, hM, hPo, hKo, hvs, hnx, hao, hRo⟩ := hv
  have hx := B.exec
  have hb := B.bytes
  have hr := B.returns
  have hts0 := atoms_spec (ws := wsM y) B.pre
  have hts : ∀ w ∈ GW, w.before (as.map (val ad)).toArray s = true := fun w hw => hts0 w (List.mem_cons_of_mem _ hw)
  have hown : s.vm.findClass (ownN (mow y)) = some m.cls := findClass_of_methodNamed B.named
  have hlocks := B.notSynchronized
  have hname : meth.name = (mrow y).2.1 := (name_of_methodNamed B.named B.method).1
  subst hsz
  have hD := hD0.self (sz := s.heap.size)
  have hA : ∀ q : Nat, s.heap.size ≤ q → va_A (wsOf ad cA κ P M) s.heap.size q := fun q h => Or.inr h
  have G : Gx p (rmD (d + 1) κ.1.1 κ.1.2) s m (as.map (val ad)).toArray meth c y (va_A (wsOf ad cA κ P M) s.heap.size) := ⟨hx, hb, hml, hown, hts, hnx, hao, hA, hname, ⟨by show 1 ≤ d + 1 + 1; omega, by show 60 ≤ 60 + 60 * (d + 1); omega⟩, hy⟩
  have I0 : Inv (κ.2.length, ad) D (va_A (wsOf ad cA κ P M) s.heap.size) (rmD (d + 1) κ.1.1 κ.1.2) s ad cA tys κ P M s.heap [] 0 0 := ⟨hK, hP, hD, va_S.rf, hT, hM, hPo, hKo, ⟨⟨Nat.zero_add _, Nat.zero_add _⟩, Nat.le_refl _, fun _ _ => rfl⟩, hRo⟩
  have hl := lv_entry (as.map (val ad)) (n := mxl y) (by rw [ent_len]; exact hal)
  rw [lg_entry_eq]
  generalize (lg_sl (as.map (val ad)) ++ List.replicate (mxl y - (lg_sl (as.map (val ad))).length) Slot.unset).toArray = ls0 at hl ⊢
  refine snd_all (l := l) (e := e) (QQ := MQ below (QcM D ad cA κ P M s.heap.size r κ' P' M') (as.map (val ad)).toArray s κ.1.1 κ.1.2 (va_A (wsOf ad cA κ P M) s.heap.size)) (below := below) (z := (κ.2.length, ad)) G hE ⟨by show d + 2 ≤ d + 1 + 1; omega, by show 120 + 60 * d ≤ 60 + 60 * (d + 1); omega⟩ ?_ ?_ h ad cA tys s.heap [] 0 0 ls0 I0 ?_ ?_ (fun v hv => by cases hv) ?_
  · rintro r1 κ1 P1 M1 ⟨rfl, rfl, rfl, rfl⟩ pc ad1 cA1 tys1 H locs cells slots ls I hrv hret
    obtain ⟨hK1, hP1, hD1, hS1, hT1, hM1, hPo1, hKo1, hcs1, hRo1⟩ := I
    have hq : ∀ (w : Option Value), w = r1.map (val ad1) → ∀ t : State, t.heap = H → s.WarmedH t.vm → QcM D ad cA κ P M s.heap.size r1 κ1 P1 M1 (as.map (val ad)).toArray s (.returned w) t := by
      intro w hw t ht hWt
      refine ⟨⟨ad1, cA1, tys1, ⟨hcs1.2.1, hcs1.2.2⟩, by rw [hw], hrv, va_K.moved hWt.alike hK1, by rw [ht]; exact hP1, hD1, hT1, hM1, hPo1, hKo1, hRo1⟩, hS1.F ht⟩
    have e1 : (rmD (d + 1) κ.1.1 κ.1.2).cells = κ.1.1 := rfl
    have e2 : (rmD (d + 1) κ.1.1 κ.1.2).slots = κ.1.2 := rfl
    rw [e1, e2] at hcs1
    refine W.widen (k := κ.1.1) (n := κ.1.2) (by omega) (by omega) ?_
    rcases hret with ⟨x, rfl, hd, ht⟩ | ⟨x, rfl, hd, ht⟩ | ⟨x, rfl, hd, ht⟩ | ⟨rfl, hd, ht⟩
    · rcases ht with ht | ⟨ht, hx01⟩
      · exact W.iret hx hb (hr.trans ht) (hq _ rfl) hS1.2.2 hd
      · exact W.zret hx hb (hr.trans ht) (by rcases hx01 with rfl | rfl <;> rfl) (hq _ rfl) hS1.2.2 hd
    · exact W.lret hx hb (hr.trans ht) (hq _ rfl) hS1.2.2 hd
    · exact W.aret hx hb (hr.trans ht) (Or.inl ⟨_, rfl⟩) (Or.inr ⟨_, rfl⟩) (hq _ rfl) hS1.2.2 hd
    · exact W.vret hx hb (hr.trans ht) (hq _ rfl) hS1.2.2 hd
  · intro κ2 P2 M2 hf
    exact hf.elim
  · refine ⟨hl.1, hl.2.1, fun q hq => ?_⟩
    obtain ⟨v, h1, h2⟩ := lst_mem.mp hq
    have := ent_get as ad 0 q.1 v (entL_get h1)
    rw [Nat.zero_add, ← h2] at this
    exact hl.2.2 q this
  · unfold entL
    rw [List.length_append, List.length_replicate]
    omega
  · intro v hv
    unfold entL at hv
    rcases List.mem_append.mp hv with w | w
    · exact hvs v (ent_mem as v w)
    · have := (List.mem_replicate.mp w).2
      cases this
theorem Ev_ctr (l : Launch) : ∀ (d y : Nat) (as : List PV) (κ : KK) (P : PM) (M : MM) (r : Option PV) (κ' : KK) (P' : PM) (M' : MM), Ev d y as κ P M r κ' P' M' → Ctr l d y as κ P M r κ' P' M'
  | 0, _, _, _, _, _, _, _, _, _, h => h.elim
  | d + 1, y, as, κ, P, M, r, κ', P', M', h => Ev_sound l d y as κ P M r κ' P' M' h (Ev_ctr l d)
