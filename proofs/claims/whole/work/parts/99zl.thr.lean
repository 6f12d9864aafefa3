/-! 'throw new NoSuchElementException()': its words, and the contract of a method that throws -/
abbrev nse : String := "java/util/NoSuchElementException"
abbrev nseN : List String := ["java/lang/RuntimeException", "java/lang/Exception"]
def thrW : List Cond := Cond.classLink "BuriedWithIt" 157 nse :: Cond.initialized nse :: vx_at0 "BuriedWithIt" 159 nse nseN
def isCD : Cond → Bool
  | .castable .. => true
  | .declares .. => true
  | _ => false
theorem thr_ot : thrW.all vx_ot = true := by decide +kernel
theorem thr_good : thrW.all (fun w => goodWord w || isCD w) = true := by decide +kernel
set_option maxRecDepth 100000 in
theorem thr_in : thrW.all (fun w => decide (w ∈ lw_tbl)) = true := by decide +kernel
def CD (U : State) : Prop := ∀ w ∈ lw_tbl, isCD w = true → va_Nw w U
theorem isCD_tab {w : Cond} (h : isCD w = true) : w.onTables = true := by
  cases w <;> first | rfl | (cases h; done)
theorem CD_warm {s U : State} (hW : s.WarmedH U.vm) (h : CD s) : CD U := by
  intro w hw hi
  have q := h w hw hi
  cases w <;> first | (cases hi; done) | exact va_Nw.warmC hW q | exact va_Nw.warmD hW q
theorem CD_same {s U : State} (hvm : s.vm = U.vm) (h : CD s) : CD U := fun w hw hi => va_Nw.same (isCD_tab hi) hvm (h w hw hi)
theorem thr_all {args : Array Value} {s : State} (hts : ∀ w ∈ GW, w.before args s = true) (hcd : CD s) : ∀ w ∈ thrW, w.before args s = true := by
  intro w hw
  have h1 := List.all_eq_true.mp thr_good w hw
  have h2 := List.all_eq_true.mp thr_in w hw
  simp only [Bool.or_eq_true, decide_eq_true_eq] at h1 h2
  rcases h1 with h1 | h1
  · exact hts w (List.mem_filter.mpr ⟨h2, h1⟩)
  · exact va_Nw.use (isCD_tab h1) (hcd w h2 h1)
def Th (A : Nat → Prop) (U : State) : Prop := CD U ∧ vx_Zq Bundle.tN "UNASSIGNED_STACK" Bundle.steD A U U.heap ∧ vx_Zq Bundle.tN "SUPPRESSED_SENTINEL" Bundle.listD A U U.heap
/-- a smaller room is there where a greater is -/
theorem room_le {s : State} {pl : Platform} {R R' : Room} (h : s.hasRoom pl R = true) (h1 : R'.frames ≤ R.frames) (h2 : R'.locals ≤ R.locals) (h3 : R'.cells ≤ R.cells) (h4 : R'.slots ≤ R.slots) : s.hasRoom pl R' = true := by
  simp only [State.hasRoom, Bool.and_eq_true, decide_eq_true_eq] at h ⊢
  obtain ⟨⟨⟨⟨g1, g2, g3, g4, g5, g6⟩, g7⟩, g8⟩, g9⟩ := h
  exact ⟨⟨⟨⟨by omega, by omega, by omega, by omega, by omega, g6⟩, by omega⟩, by omega⟩, g9⟩
section
variable {p : Program} {l : Launch} {e : Env} {R R' : Room} {s : State} {m : MethodId} {args : Array Value} {below : List Frame} {meth : Method} {c : Code} {H : Heap} {locs : List Loc} {cells slots : Nat} {Q : State → Prop} {g : JFrame}
theorem st_room {T : State} (X : Stand p l e R s m args below meth c T locs cells slots) (h : s.hasRoom e.platform R' = true) : Stand p l e R' s m args below meth c T locs cells slots := ⟨X.admits, X.cas, X.clock, X.frames, h, X.hears, X.method, X.code, X.here, X.tail, X.warmed, X.limits, X.bytes, X.same⟩
def cutQ (p : Program) (l : Launch) (e : Env) (R : Room) (s : State) (m : MethodId) (args : Array Value) (below : List Frame) (meth : Method) (c : Code) (K : Heap → List Loc → Nat → Nat → Nat → Array Slot → List Value → Prop) : State → Prop := fun t => ∃ (T' : State) (H' : Heap) (locs' : List Loc) (cells' slots' pc' : Nat) (ls' : Array Slot) (st' : List Value), t = T'.setTop (F0 m pc' ls' st') ∧ T'.heap = H' ∧ Stand p l e R s m args below meth c T' locs' cells' slots' ∧ K H' locs' cells' slots' pc' ls' st'
theorem W_cut {K : Heap → List Loc → Nat → Nat → Nat → Array Slot → List Value → Prop} (h1 : R'.frames ≤ R.frames) (h2 : R'.locals ≤ R.locals) (h3 : R'.cells ≤ R.cells) (h4 : R'.slots ≤ R.slots) (h : W p l e R' s m args below meth c H locs cells slots (cutQ p l e R' s m args below meth c K) g)
    (hk : ∀ H' locs' cells' slots' pc' ls' st', K H' locs' cells' slots' pc' ls' st' → W p l e R s m args below meth c H' locs' cells' slots' Q (F0 m pc' ls' st')) : W p l e R s m args below meth c H locs cells slots Q g := by
  intro T hT X
  obtain ⟨t, a1, T', H', locs', cells', slots', pc', ls', st', rfl, hH, X', hK⟩ := h T hT (st_room X (room_le X.room h1 h2 h3 h4))
  obtain ⟨t2, a2, b2⟩ := hk H' locs' cells' slots' pc' ls' st' hK T' hH (st_room X' X.room)
  exact ⟨t2, a1.trans a2, b2⟩
theorem W_stop {K : Heap → List Loc → Nat → Nat → Nat → Array Slot → List Value → Prop} {pc : Nat} {ls : Array Slot} {st : List Value} (h : K H locs cells slots pc ls st) : W p l e R s m args below meth c H locs cells slots (cutQ p l e R s m args below meth c K) (F0 m pc ls st) := fun T hT X => ⟨_, Steps.refl _, T, H, locs, cells, slots, pc, ls, st, rfl, hT, X, h⟩
end
/-- closed under the steps of a method, its ends aside -/
def Clo (E : CR) (m : Nat) (C : KT) : Prop := ∀ pc ls st κ P M, stepAt E m (fun _ _ _ _ => False) (fun _ _ _ => False) pc ls st κ P M C → C pc ls st κ P M
/-- a run that comes to the throw at pcx with nothing on its stack -/
def EvY (d y pcx : Nat) (as : List PV) (κ : KK) (P : PM) (M : MM) : Prop := (ent as).length ≤ mxl y ∧ ∀ C : KT, Clo (Ev d) y C → (∀ ls, C pcx ls [] κ P M) → C 0 (entL y as) [] κ P M
def thrD (y pcx : Nat) : Bool := decide (decode (cod y) pcx = .ok (.new 157, 3)) && (decide (decode (cod y) (pcx + 3) = .ok (.dup, 1)) && (decide (decode (cod y) (pcx + 4) = .ok (.invokespecial 159, 3)) && decide (decode (cod y) (pcx + 7) = .ok (.athrow, 1))))
theorem EvY_ctr (l : Launch) (hl : l.stackTraces = false) {d y pcx : Nat} {as : List PV} {L : List (Nat × Nat)} {P : PM} {M : MM} (h : EvY d y pcx as (kz L) P M) (hd5 : 5 ≤ d) (hy : y < 271) (hmow : mow y = 10) (hdec : thrD y pcx = true) (D : va_G) (ad : Nat → Nat) (cA : Nat → ClassId) (tys : List (ClassId × FieldType)) (sz : Nat) :
    vx_Met l (mN y) (wsM y) (rmD (d + 1) 1 6) (fun a U => PcM D ad cA tys (kz L) P M as sz a U ∧ Th (va_A (wsOf ad cA (kz L) P M) sz) U) (fun _ _ _ _ => False) (fun E st t => E = nse ∧ QcM D ad cA (kz L) P M sz none (kz L) P M #[] st (.returned none) t) 1 6 (va_A (wsOf ad cA (kz L) P M) sz) := by
  obtain ⟨hal, h⟩ := h
  unfold thrD at hdec
  simp only [Bool.and_eq_true, decide_eq_true_eq] at hdec
  obtain ⟨d0, d3, d4, d7⟩ := hdec
  obtain ⟨f1, f2, f3, f4, f5, f6⟩ := m_facts hy
  refine vx_ofW (cc := cod y) (maxL := mxl y) (ret := rty y) f3 rfl ?_
  intro p e s m args below meth c s₁ B hml htab hv
  obtain ⟨⟨rfl, hsz, hK, hP, hD0, hT, hM, hPo, hKo, hvs, hnx, hao, hRo⟩, hcd, hU, hN⟩ := hv
  have hx := B.exec
  have hb := B.bytes
  have hts0 := atoms_spec (ws := wsM y) B.pre
  have hts : ∀ w ∈ GW, w.before (as.map (val ad)).toArray s = true := fun w hw => hts0 w (List.mem_cons_of_mem _ hw)
  have hown : s.vm.findClass (ownN (mow y)) = some m.cls := findClass_of_methodNamed B.named
  have hlocks := B.notSynchronized
  have hname : meth.name = (mrow y).2.1 := (name_of_methodNamed B.named B.method).1
  subst hsz
  have hD := hD0.self (sz := s.heap.size)
  have hA : ∀ q : Nat, s.heap.size ≤ q → va_A (wsOf ad cA (kz L) P M) s.heap.size q := fun q h => Or.inr h
  have G : Gx p (rmD (d + 1) 0 0) s m (as.map (val ad)).toArray meth c y (va_A (wsOf ad cA (kz L) P M) s.heap.size) := ⟨hx, hb, hml, hown, hts, hnx, hao, hA, hname, ⟨by show 1 ≤ d + 1 + 1; omega, by show 60 ≤ 60 + 60 * (d + 1); omega⟩, hy⟩
  have I0 : Inv (L.length, ad) D (va_A (wsOf ad cA (kz L) P M) s.heap.size) (rmD (d + 1) 0 0) s ad cA tys (kz L) P M s.heap [] 0 0 := ⟨hK, hP, hD, va_S.rf, hT, hM, hPo, hKo, ⟨⟨Nat.zero_add _, Nat.zero_add _⟩, Nat.le_refl _, fun _ _ => rfl⟩, hRo⟩
  have hl9 := lv_entry (as.map (val ad)) (n := mxl y) (by rw [ent_len]; exact hal)
  rw [lg_entry_eq]
  generalize (lg_sl (as.map (val ad)) ++ List.replicate (mxl y - (lg_sl (as.map (val ad))).length) Slot.unset).toArray = ls0 at hl9 ⊢
  refine W_cut (R' := rmD (d + 1) 0 0) (K := fun H' locs' cells' slots' pc' ls' st' => pc' = pcx ∧ st' = [] ∧ ls'.size = mxl y ∧ ∃ ad1 cA1 tys1, Inv (L.length, ad) D (va_A (wsOf ad cA (kz L) P M) s.heap.size) (rmD (d + 1) 0 0) s ad1 cA1 tys1 (kz L) P M H' locs' cells' slots') (Nat.le_refl _) (Nat.le_refl _) (by show 0 ≤ 1; omega) (by show 0 ≤ 6; omega) ?_ ?_
  · refine h (Snd p l e (rmD (d + 1) 0 0) s m (as.map (val ad)).toArray below meth c y (L.length, ad) D (va_A (wsOf ad cA (kz L) P M) s.heap.size) (cutQ p l e (rmD (d + 1) 0 0) s m (as.map (val ad)).toArray below meth c _)) (fun pc ls st κ P M q => snd_at (d := d) G (Ev_ctr l d) ⟨by show d + 2 ≤ d + 1 + 1; omega, by show 120 + 60 * d ≤ 60 + 60 * (d + 1); omega⟩ (fun _ _ _ _ hq => hq.elim) (fun _ _ _ hq => hq.elim) q) ?_ ad cA tys s.heap [] 0 0 ls0 I0 ?_ ?_ (fun v hv => by cases hv) ?_
    · intro ls ad1 cA1 tys1 H1 locs1 cells1 slots1 lsv I1 hl1 hn1 _ _
      exact W_stop ⟨rfl, rfl, hl1.1, ad1, cA1, tys1, I1⟩
    · refine ⟨hl9.1, hl9.2.1, fun q hq => ?_⟩
      obtain ⟨v, h1, h2⟩ := lst_mem.mp hq
      have := ent_get as ad 0 q.1 v (entL_get h1)
      rw [Nat.zero_add, ← h2] at this
      exact hl9.2.2 q this
    · unfold entL
      rw [List.length_append, List.length_replicate]
      omega
    · intro v hv
      unfold entL at hv
      rcases List.mem_append.mp hv with w | w
      · exact hvs v (ent_mem as v w)
      · have := (List.mem_replicate.mp w).2
        cases this
  · rintro H1 locs1 cells1 slots1 pc1 ls1 st1 ⟨rfl, rfl, hsize, ad1, cA1, tys1, I1⟩
    obtain ⟨hK1, hP1, hD1, hS1, hT1, hM1, hPo1, hKo1, hcs1, hRo1⟩ := I1
    have hc0 : cells1 = 0 := hcs1.1.1
    have hs0 : slots1 = 0 := hcs1.1.2
    have hall := thr_all hts hcd
    rw [hmow] at hown
    refine vx_throw0 (own := "BuriedWithIt") (cls := nse) (names := nseN) (ik := 157) (ic := 159) hx hb hl hown (by decide +kernel) (by decide +kernel) (hall _ List.mem_cons_self) (hall _ (List.mem_cons_of_mem _ List.mem_cons_self)) (fun w hw => hall w (List.mem_cons_of_mem _ (List.mem_cons_of_mem _ hw))) (fun w hw => List.all_eq_true.mp thr_ot w hw) hU hN hS1 (hsize.trans hml.symm) d0 d3 d4 d7 (fun x hx => (htab x hx).elim) ?_ ?_ ?_ ?_ hlocks ?_ hS1.2.2 ?_ ?_
    · show 2 + 3 < d + 1 + 1; omega
    · show 0 + (13 * (2 + 1) + 42) ≤ 60 + 60 * (d + 1); omega
    · show cells1 + 1 ≤ 1; omega
    · show slots1 + 6 ≤ 6; omega
    · intro t hvm hle heq
      refine ⟨rfl, ⟨ad1, cA1, tys1, ⟨hcs1.2.1, hcs1.2.2⟩, rfl, (fun v hv => by cases hv), va_K.moved hvm hK1, hP1.kept (fun k q hq => heq _ (va_at_lt (hP1 k q hq))), hD1, hT1, hM1, hPo1, hKo1, hRo1⟩, Nat.le_trans hS1.1 hle, fun q h1 h2 => (heq q (Nat.lt_of_lt_of_le h1 hS1.1)).trans (hS1.2.1 q h1 h2)⟩
    · omega
    · omega
