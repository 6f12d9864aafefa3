/-! the pure machine's memory as cells of the heap -/
def aty (t : Nat) : FieldType := if t = 1 then .int else if t = 2 then .boolean else if t = 3 then .byte else if t = 4 then .char else if t = 5 then .long else if t = 6 then .object "BuriedWithIt$State" else .object "BuriedWithIt$Path"
def val (ad : Nat → Nat) : PV → Value
  | Sum.inl x => .int (Int32.ofInt x)
  | Sum.inr (Sum.inl x) => .long (Int64.ofInt x)
  | Sum.inr (Sum.inr o) => .ref (ad o)
def fvl (ad : Nat → Nat) (t p : Nat) (x : Int) : Value := if t = 8 then (if p = 0 then .null else .ref (ad p)) else if t = 5 then .long (Int64.ofInt x) else .int (Int32.ofInt x)
def rfl9 (ad : Nat → Nat) (p : Nat) : Option Nat := if p = 0 then none else some (ad p)
def cellOf (ad : Nat → Nat) (c : ClassId) (k : Nat × Nat) (p : Nat → Nat) (f : Nat → Int) : va_E :=
  if k.1 = 0 then .inr (k.2, (List.range (nfl k.2)).map (fun j => fvl ad (ftc k.2 j) (p j) (f j)))
  else if k.1 = 5 then .inl (c, k.2, .inr (.inl (fun j => Int64.ofInt (f j))))
  else if k.1 = 6 ∨ k.1 = 7 then .inl (c, k.2, .inr (.inr (.inr (.inr (fun j => rfl9 ad (p j))))))
  else .inl (c, k.2, .inl (fun j => Int32.ofInt (f j)))
def wsOf (ad : Nat → Nat) (cA : Nat → ClassId) (κ : KK) (P : PM) (M : MM) : va_W := (List.range (κ.2.length - 1)).map (fun i => (ad (i + 1), cellOf ad (cA (i + 1)) (kd κ (i + 1)) (P (i + 1)) (M (i + 1))))
theorem wsOf_len {ad : Nat → Nat} {cA : Nat → ClassId} {κ : KK} {P : PM} {M : MM} : (wsOf ad cA κ P M).length = κ.2.length - 1 := by simp [wsOf]
theorem wsOf_get {ad : Nat → Nat} {cA : Nat → ClassId} {κ : KK} {P : PM} {M : MM} {o : Nat} (h1 : 1 ≤ o) (h2 : o < κ.2.length) : (wsOf ad cA κ P M)[o - 1]? = some (ad o, cellOf ad (cA o) (kd κ o) (P o) (M o)) := by
  have e : o - 1 + 1 = o := by omega
  simp only [wsOf, List.getElem?_map]
  rw [List.getElem?_range (by omega)]
  simp [e]
theorem wsOf_set {ad : Nat → Nat} {cA : Nat → ClassId} {κ : KK} {P P' : PM} {M M' : MM} {o : Nat} {e : va_E} (h1 : 1 ≤ o) (hP : ∀ q, q ≠ o → P' q = P q) (hM : ∀ q, q ≠ o → M' q = M q) (he : cellOf ad (cA o) (kd κ o) (P' o) (M' o) = e) : (wsOf ad cA κ P M).set (o - 1) (ad o, e) = wsOf ad cA κ P' M' := by
  apply List.ext_getElem?
  intro i
  rw [List.getElem?_set]
  by_cases hi : i < κ.2.length - 1
  · have g := wsOf_get (ad := ad) (cA := cA) (κ := κ) (P := P') (M := M') (o := i + 1) (by omega) (by omega)
    have g0 := wsOf_get (ad := ad) (cA := cA) (κ := κ) (P := P) (M := M) (o := i + 1) (by omega) (by omega)
    simp only [Nat.add_sub_cancel] at g g0
    rw [g, wsOf_len]
    by_cases hq : o - 1 = i
    · have e2 : i + 1 = o := by omega
      rw [if_pos hq, if_pos (by omega), e2, he]
    · rw [if_neg hq, g0, hP (i + 1) (by omega), hM (i + 1) (by omega)]
  · have n1 : (wsOf ad cA κ P M)[i]? = none := List.getElem?_eq_none (by rw [wsOf_len]; omega)
    have n2 : (wsOf ad cA κ P' M')[i]? = none := List.getElem?_eq_none (by rw [wsOf_len]; omega)
    rw [n1, n2, wsOf_len]
    split
    · split
      · omega
      · rfl
    · rfl
theorem kd_lt {κ : KK} {o a b : Nat} (h : kd κ o = (a, b)) (ha : a ≠ 99) : o < κ.2.length := by
  rcases Nat.lt_or_ge o κ.2.length with q | q
  · exact q
  · unfold kd at h
    rw [List.getD_eq_getElem?_getD, List.getElem?_eq_none q] at h
    cases h
    exact absurd rfl ha
theorem kd1_lt {κ : KK} {o a : Nat} (h : (kd κ o).1 = a) (ha : a ≠ 99) : o < κ.2.length := kd_lt (a := a) (b := (kd κ o).2) (by rw [← h]) ha
theorem kd_newK {κ : KK} {a : Nat × Nat} {n o : Nat} (h : o < κ.2.length) : kd (newK κ a n) o = kd κ o := by
  simp [kd, newK, List.getElem?_append_left h]
theorem kd_newK_self {κ : KK} {a : Nat × Nat} {n : Nat} : kd (newK κ a n) κ.2.length = a := by
  simp [kd, newK]
def rngF (t : Nat) (x : Int) : Prop := if t = 5 then r64 x else if t = 2 then (x = 0 ∨ x = 1) else if t = 3 then (-128 ≤ x ∧ x < 128) else if t = 4 then (0 ≤ x ∧ x < 65536) else r32 x
def tyk (k : Nat × Nat) (j : Nat) : Nat := if k.1 = 0 then ftc k.2 j else k.1
def Mok (κ : KK) (M : MM) : Prop := ∀ o k, o < κ.2.length → rngF (tyk (kd κ o) k) (M o k)
def Pok (κ : KK) (P : PM) : Prop := ∀ o k, P o k < κ.2.length
def Kok (κ : KK) : Prop := (1 ≤ κ.2.length ∧ kd κ 0 = (9, 13)) ∧ ∀ o, 1 ≤ o → o < κ.2.length → (kd κ o).1 ≤ 7 ∧ ((kd κ o).1 = 0 → (kd κ o).2 < 12) ∧ (kd κ o).2 ≤ 100000
def vok (κ : KK) : PV → Prop
  | Sum.inl x => r32 x
  | Sum.inr (Sum.inl x) => r64 x
  | Sum.inr (Sum.inr o) => o < κ.2.length
theorem rngF_32 {t : Nat} {x : Int} (h : rngF t x) (ht : t ≠ 5) : r32 x := by
  unfold rngF at h
  unfold r32 at *
  split at h
  · contradiction
  · split at h
    · omega
    · split at h
      · omega
      · split at h
        · omega
        · exact h
theorem rngF_64 {t : Nat} {x : Int} (h : rngF t x) (ht : t = 5) : r64 x := by
  unfold rngF at h
  rw [if_pos ht] at h
  exact h
theorem uM_ne {M : MM} {o k q : Nat} {v : Int} (h : q ≠ o) : uM M o k v q = M q := by
  funext j
  simp [uM, h]
theorem uP_ne {P : PM} {o k q : Nat} {v : Nat} (h : q ≠ o) : uP P o k v q = P q := by
  funext j
  simp [uP, h]
theorem uM_self {M : MM} {o k : Nat} {v : Int} : uM M o k v o = fun j => if j = k then v else M o j := by
  funext j
  simp [uM]
theorem uP_self {P : PM} {o k : Nat} {v : Nat} : uP P o k v o = fun j => if j = k then v else P o j := by
  funext j
  simp [uP]
theorem Mok_u {κ : KK} {M : MM} {o k : Nat} {v : Int} (h : Mok κ M) (hv : rngF (tyk (kd κ o) k) v) : Mok κ (uM M o k v) := by
  intro q j hq
  by_cases e : q = o
  · subst e
    rw [uM_self]
    dsimp only
    split
    · rename_i e; subst e; exact hv
    · exact h q j hq
  · rw [uM_ne e]
    exact h q j hq
theorem Pok_u {κ : KK} {P : PM} {o k v : Nat} (h : Pok κ P) (hv : v < κ.2.length) : Pok κ (uP P o k v) := by
  intro q j
  unfold uP
  split
  · split
    · exact hv
    · exact h o j
  · exact h q j
/-- what the tables and the static array say at the entry of a method -/
def isNw : Cond → Bool
  | .fieldLinkNest .. => true
  | .methodLinkNest .. => true
  | _ => false
def NX (s : State) : Prop := ∀ w ∈ lw_tbl, isNw w = true → va_Nw w s
theorem NX_warm {s U : State} (hW : s.WarmedH U.vm) (h : NX s) : NX U := by
  intro w hw hi
  have q := h w hw hi
  cases w <;> first | (cases hi; done) | exact va_Nw.warmF hW q | exact va_Nw.warmM hW q
theorem NX_same {s U : State} (hvm : s.vm = U.vm) (h : NX s) : NX U := by
  intro w hw hi
  have q := h w hw hi
  cases w <;> first | (cases hi; done) | exact va_Nw.same rfl hvm q
def Ro (A : Nat → Prop) (ad : Nat → Nat) (κ : KK) (M : MM) (s : State) : Prop := kd κ 0 = (9, 13) → va_Z "BuriedWithIt$Rule" "PLAIN" "[C" (.ref (ad 0)) A s s.heap ∧ ∃ f : Nat → Value, va_T .char (ad 0) 13 f A s s.heap ∧ ∀ j, j < 13 → f j = .int (Int32.ofInt (M 0 j))
def Inv (z : Nat × (Nat → Nat)) (D : va_G) (A : Nat → Prop) (R : Room) (s : State) (ad : Nat → Nat) (cA : Nat → ClassId) (tys : List (ClassId × FieldType)) (κ : KK) (P : PM) (M : MM) (H : Heap) (locs : List Loc) (cells slots : Nat) : Prop :=
  va_K D cls tys s ∧ va_P D cls (wsOf ad cA κ P M) H ∧ va_D A (wsOf ad cA κ P M) ∧ va_S A s.heap H locs ∧ (∀ o, 1 ≤ o → o < κ.2.length → 1 ≤ (kd κ o).1 → (cA o, aty (kd κ o).1) ∈ tys) ∧ Mok κ M ∧ Pok κ P ∧ Kok κ ∧ ((cells + κ.1.1 = R.cells ∧ slots + κ.1.2 = R.slots) ∧ (z.1 ≤ κ.2.length ∧ ∀ o, o < z.1 → ad o = z.2 o)) ∧ Ro A ad κ M s
def Gx (p : Program) (R : Room) (s : State) (m : MethodId) (args : Array Value) (meth : Method) (c : Code) (mi : Nat) (A : Nat → Prop) : Prop :=
  p.tables.exec = Jvm.exec ∧ c.code = cod mi ∧ c.maxLocals = mxl mi ∧ s.vm.findClass (ownN (mow mi)) = some m.cls ∧ (∀ w ∈ GW, w.before args s = true) ∧ NX s ∧ (va_AO "BuriedWithIt$State" s ∧ va_AO "BuriedWithIt$Path" s) ∧ (∀ q, s.heap.size ≤ q → A q) ∧ meth.name = (mrow mi).2.1 ∧ (1 ≤ R.frames ∧ 60 ≤ R.locals) ∧ mi < 271
def lst (ad : Nat → Nat) (pl : PL) : List (Nat × Value) := (List.range pl.length).filterMap (fun i => match pl[i]? with | some (some v) => some (i, val ad v) | _ => none)
theorem lst_mem {ad : Nat → Nat} {pl : PL} {q : Nat × Value} : q ∈ lst ad pl ↔ ∃ v, pl[q.1]? = some (some v) ∧ q.2 = val ad v := by
  obtain ⟨i, w⟩ := q
  simp only [lst, List.mem_filterMap, List.mem_range]
  constructor
  · rintro ⟨j, hj, h⟩
    split at h
    · rename_i v hv
      cases h
      exact ⟨v, hv, rfl⟩
    · cases h
  · rintro ⟨v, hv, e⟩
    refine ⟨i, ?_, ?_⟩
    · rcases Nat.lt_or_ge i pl.length with q | q
      · exact q
      · rw [List.getElem?_eq_none q] at hv; cases hv
    · simp only [hv]
      rw [show w = val ad v from e]
theorem lst_has {ad : Nat → Nat} {pl : PL} {ls : Array Slot} {n i : Nat} {v : PV} (h : lv_has ls n (lst ad pl)) (hv : pl[i]? = some (some v)) : ls[i]? = some (.val (val ad v)) := h.2.2 (i, val ad v) (lst_mem.mpr ⟨v, hv, rfl⟩)
theorem lst_idx {ad : Nat → Nat} {pl : PL} {i : Nat} {v : PV} (hv : pl[i]? = some (some v)) : ∃ k : Nat, (lst ad pl)[k]? = some (i, val ad v) := List.getElem?_of_mem (lst_mem.mpr ⟨v, hv, rfl⟩)
theorem val_cat {ad : Nat → Nat} (v : PV) : (val ad v).category = if isL v then 2 else 1 := by
  rcases v with x | x | x <;> rfl
theorem set1_len : ∀ (pl : PL) (k : Nat) (v : PV), (set1 pl k v).length = pl.length
  | [], _, _ => by unfold set1; rfl
  | _ :: t, 0, v => by simp [set1]
  | x :: [], 1, _ => by simp [set1]
  | x :: y :: t, 1, v => by simp [set1]
  | x :: t, n + 2, v => by simp [set1, set1_len t (n + 1) v]
theorem clr_some {x : Option PV} {w : PV} (h : clr x = some w) : x = some w ∧ isL w = false := by
  rcases x with _ | (x | x | x)
  · cases h
  · cases h; exact ⟨rfl, rfl⟩
  · cases h
  · cases h; exact ⟨rfl, rfl⟩
theorem set1_get : ∀ (pl : PL) (k : Nat) (v : PV) (i : Nat) (w : PV), k < pl.length → (set1 pl k v)[i]? = some (some w) → (i = k ∧ w = v) ∨ (i ≠ k ∧ pl[i]? = some (some w) ∧ (i + 1 = k → isL w = false))
  | [], _, _, _, _, h, _ => absurd h (Nat.not_lt_zero _)
  | y :: t, 0, v, i, w, _, h => by
    cases i with
    | zero => simp [set1] at h; exact Or.inl ⟨rfl, h.symm⟩
    | succ i => simp [set1] at h; exact Or.inr ⟨by omega, by simpa using h, by omega⟩
  | x :: [], 1, _, _, _, hl, _ => absurd hl (by simp)
  | x :: y :: t, 1, v, i, w, _, h => by
    rcases i with _ | _ | i
    · simp [set1] at h
      have := clr_some h
      exact Or.inr ⟨by omega, by simpa using this.1, fun _ => this.2⟩
    · simp [set1] at h
      exact Or.inl ⟨rfl, h.symm⟩
    · simp [set1] at h
      exact Or.inr ⟨by omega, by simpa using h, by omega⟩
  | x :: t, n + 2, v, i, w, hl, h => by
    cases i with
    | zero => simp [set1] at h; exact Or.inr ⟨by omega, by simpa using h, by omega⟩
    | succ i =>
      simp [set1] at h
      rcases set1_get t (n + 1) v i w (by simp at hl; omega) h with ⟨a, b⟩ | ⟨a, b, c⟩
      · exact Or.inl ⟨by omega, b⟩
      · exact Or.inr ⟨by omega, by simpa using b, fun q => c (by omega)⟩
theorem set2_len : ∀ (pl : PL) (k : Nat) (v : PV), (set2 pl k v).length = pl.length
  | [], _, _ => by unfold set2; rfl
  | x :: [], _, _ => by unfold set2; rfl
  | _ :: _ :: t, 0, v => by simp [set2]
  | x :: _ :: [], 1, _ => by simp [set2]
  | x :: _ :: _ :: t, 1, v => by simp [set2]
  | x :: y :: t, n + 2, v => by simp [set2, set2_len (y :: t) (n + 1) v]
theorem set2_get : ∀ (pl : PL) (k : Nat) (v : PV) (i : Nat) (w : PV), k + 1 < pl.length → (set2 pl k v)[i]? = some (some w) → (i = k ∧ w = v) ∨ (i ≠ k ∧ i ≠ k + 1 ∧ pl[i]? = some (some w) ∧ (i + 1 = k → isL w = false))
  | [], _, _, _, _, h, _ => absurd h (Nat.not_lt_zero _)
  | x :: [], k, _, _, _, h, _ => by simp at h
  | y :: z :: t, 0, v, i, w, _, h => by
    rcases i with _ | _ | i
    · simp [set2] at h; exact Or.inl ⟨rfl, h.symm⟩
    · simp [set2] at h
    · simp [set2] at h; exact Or.inr ⟨by omega, by omega, by simpa using h, by omega⟩
  | x :: _ :: [], 1, _, _, _, hl, _ => absurd hl (by simp)
  | x :: y :: z :: t, 1, v, i, w, _, h => by
    rcases i with _ | _ | _ | i
    · simp [set2] at h
      have := clr_some h
      exact Or.inr ⟨by omega, by omega, by simpa using this.1, fun _ => this.2⟩
    · simp [set2] at h
      exact Or.inl ⟨rfl, h.symm⟩
    · simp [set2] at h
    · simp [set2] at h
      exact Or.inr ⟨by omega, by omega, by simpa using h, by omega⟩
  | x :: y :: t, n + 2, v, i, w, hl, h => by
    cases i with
    | zero => simp [set2] at h; exact Or.inr ⟨by omega, by omega, by simpa using h, by omega⟩
    | succ i =>
      simp only [set2, List.getElem?_cons_succ] at h
      rcases set2_get (y :: t) (n + 1) v i w (by simp at hl ⊢; omega) h with ⟨a, b⟩ | ⟨a, a2, b, c⟩
      · exact Or.inl ⟨by omega, b⟩
      · exact Or.inr ⟨by omega, by omega, by simpa using b, fun q => c (by omega)⟩
