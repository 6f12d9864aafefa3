/-! the law: two worlds beside each other -/
abbrev R_lw : String := "BuriedWithItLaw"
abbrev AS (s : State) : Nat → Prop := fun q => s.heap.size ≤ q
def aOf (W : va_W) (q : Nat) : Prop := ∃ (k : Nat) (e : va_E), W[k]? = some (q, e)
def Wd (D : va_G) (s : State) (H : Heap) (ad : Nat → Nat) (cA : Nat → ClassId) (L : List (Nat × Nat)) (P : PM) (M : MM) : Prop := va_P D cls (wsOf ad cA (kz L) P M) H ∧ va_D (AS s) (wsOf ad cA (kz L) P M) ∧ (∃ tys, va_K D cls tys s ∧ hTy cA tys (kz L)) ∧ Mok (kz L) M ∧ Pok (kz L) P ∧ Kok (kz L) ∧ Ro (AS s) ad (kz L) M s
theorem va_at_lt {D : va_G} {q : Nat × va_E} {H : Heap} (h : va_at D cls q H) : q.1 < H.size := by
  obtain ⟨a, e⟩ := q
  cases e with
  | inl x => exact (Array.getElem?_eq_some_iff.mp h).1
  | inr x =>
    obtain ⟨r, _, cell, h1, _⟩ := h
    exact (Array.getElem?_eq_some_iff.mp h1).1
theorem Wd_lt {D : va_G} {s : State} {H : Heap} {ad : Nat → Nat} {cA : Nat → ClassId} {L : List (Nat × Nat)} {P : PM} {M : MM} (h : Wd D s H ad cA L P M) {q : Nat} (hq : aOf (wsOf ad cA (kz L) P M) q) : q < H.size ∧ s.heap.size ≤ q := by
  obtain ⟨k, e, hk⟩ := hq
  exact ⟨va_at_lt (h.1 k (q, e) hk), h.2.1.2 k (q, e) hk⟩
/-- what the law's own frame has -/
def Lx (p : Program) (s : State) (m : MethodId) (c : Code) (args : Array Value) : Prop := p.tables.exec = Jvm.exec ∧ c.code = code ∧ c.maxLocals = 8 ∧ s.vm.findClass R_lw = some m.cls ∧ (∀ w ∈ GW, w.before args s = true) ∧ NX s ∧ (va_AO "BuriedWithIt$State" s ∧ va_AO "BuriedWithIt$Path" s)
section
variable {p : Program} {l : Launch} {e : Env} {R : Room} {s : State} {m : MethodId} {args : Array Value} {below : List Frame} {meth : Method} {c : Code} {D : va_G} {QQ : State → Prop} {pc d y : Nat} {L : List (Nat × Nat)} {P P' : PM} {M M' : MM} {r : Option PV} {κ' : KK} {as : List PV} {b : Nat × Nat} {ad : Nat → Nat} {cA : Nat → ClassId} {H : Heap} {locs : List Loc} {cells slots : Nat} {ls : Array Slot} {st0 rest : List Value} {a9 : Array Value}
theorem lw_go (hW : Wd D s H ad cA L P M) (hS : va_S (AS s) s.heap H locs) (hr : va_Run p l e R s m args below meth c H locs cells slots b.1 b.2 (F0 m pc ls st0) rest (QcM D ad cA (b, L) P M H.size r κ' P' M' a9) (va_A (wsOf ad cA (kz L) P M) H.size)) (h : ∀ (ad' : Nat → Nat) (cA' : Nat → ClassId) (H' : Heap) (locs' : List Loc), (∀ o, o < L.length → ad' o = ad o) → Wd D s H' ad' cA' κ'.2 P' M' → H.size ≤ H'.size → (∀ q, q < H.size → ¬ aOf (wsOf ad cA (kz L) P M) q → H'[q]? = H[q]?) → (∀ q, aOf (wsOf ad' cA' (kz κ'.2) P' M') q → aOf (wsOf ad cA (kz L) P M) q ∨ H.size ≤ q) → va_S (AS s) s.heap H' locs' → W p l e R s m args below meth c H' locs' (cells + b.1) (slots + b.2) QQ (F0 m (pc + 3) ls ((r.map (val ad')).toList ++ rest))) : W p l e R s m args below meth c H locs cells slots QQ (F0 m pc ls st0) := by
  have hlt := fun q hq => Wd_lt hW (q := q) hq
  obtain ⟨hP, hD, ⟨tys, hK, hT⟩, hM, hPo, hKo, hRo⟩ := hW
  have hAA : ∀ q, va_A (wsOf ad cA (kz L) P M) H.size q → AS s q := by
    rintro q (hq | hq)
    · exact (hlt q hq).2
    · exact Nat.le_trans hS.1 hq
  intro T hTT X9
  obtain ⟨v, st9, t, T2, Lc, h0, X2, hL, e1, e2, ⟨⟨ad', cA', tys', ⟨hlen, hag⟩, hoc, hrv, k1, k2, k3, k4, k5, k6, k7, k8⟩, hF1, hF2⟩, stp⟩ := hr T hTT X9
  rw [h0] at hF1 hF2
  have hS2 : va_S (AS s) s.heap T2.heap (locs ++ Lc) := by
    refine ⟨Nat.le_trans hS.1 (by rw [e1]; exact hF1), fun q h1 h2 => ?_, fun q hq => ?_⟩
    · rw [e1, hF2 q (Nat.lt_of_lt_of_le h1 hS.1) (fun w => h2 (hAA q w))]
      exact hS.2.1 q h1 h2
    · rcases List.mem_append.mp hq with w | w
      · exact hS.2.2 q w
      · exact hAA _ (hL q w)
  have hvm : s.vm.Alike t.vm := by rw [← e2]; exact X2.warmed.alike
  have hW2 : Wd D s T2.heap ad' cA' κ'.2 P' M' := by
    refine ⟨by rw [e1]; exact k2, k3.weaken (fun _ q _ w => hAA _ w), ⟨tys', va_K.moved hvm.symm k1, k4⟩, k5, k6, k7, fun q => ?_⟩
    have hz0 := hag 0 hKo.1.1
    obtain ⟨a1, f, a2, a3⟩ := hRo hKo.1.2
    obtain ⟨_, f', b2, b3⟩ := k8 k7.1.2
    rw [hz0] at b2 ⊢
    refine ⟨a1, f, a2, fun j hj => ?_⟩
    obtain ⟨c1, x1, x2, x3, x4, x5, x6, x7⟩ := a2
    obtain ⟨c2, y1, y2, y3, y4, y5, y6, y7⟩ := b2
    have ec : c1 = c2 := by
      have w1 := hS.2.1 (ad 0) (Array.getElem?_eq_some_iff.mp x1).1 x7
      rw [h0] at y1
      rw [w1, x1] at y1
      exact Option.some.inj y1
    subst ec
    have w2 := y6 j hj
    rw [x6 j hj] at w2
    rw [Option.some.inj w2]
    exact b3 j hj
  have fin9 := h ad' cA' T2.heap (locs ++ Lc) hag hW2 (by rw [e1]; exact hF1) (fun q hq hn => ?_) (fun q hq => ?_) hS2
  · have hoc' : v = r.map (val ad') := by cases hoc; rfl
    rw [← hoc'] at fin9
    obtain ⟨t3, f1, f2⟩ := fin9 T2 rfl X2
    exact ⟨t3, stp t3 f1, f2⟩
  · rw [e1]
    exact hF2 q hq (fun w => w.elim hn (fun w => by omega))
  · obtain ⟨k, e9, hk⟩ := hq
    exact k3.2 k (q, e9) hk
theorem lw_pre (G : Lx p s m c args) (hW : Wd D s H ad cA L P M) (hS : va_S (AS s) s.heap H locs) {tys : List (ClassId × FieldType)} (hK : va_K D cls tys s) (hT : hTy cA tys (kz L)) (has : ∀ v ∈ as, vok (kz L) v) : ∀ U : State, U.heap = H → s.WarmedH U.vm → PcM D ad cA tys (b, L) P M as H.size (as.map (val ad)).toArray U := by
  have hlt := fun q hq => Wd_lt hW (q := q) hq
  obtain ⟨hx, hb, hml, hown, hts, hnx, hao⟩ := G
  obtain ⟨hP, hD, _, hM, hPo, hKo, hRo⟩ := hW
  have hAA : ∀ q, va_A (wsOf ad cA (kz L) P M) H.size q → AS s q := by
    rintro q (hq | hq)
    · exact (hlt q hq).2
    · exact Nat.le_trans hS.1 hq
  intro U hU hW
  refine ⟨rfl, by rw [hU], va_K.moved hW.alike hK, by rw [hU]; exact hP, hD.weaken (fun _ _ _ _ => trivial), hT, hM, hPo, hKo, has, NX_warm hW hnx, ⟨va_AO.moved hW.alike hao.1, va_AO.moved hW.alike hao.2⟩, fun q => ?_⟩
  obtain ⟨a1, f, a2, a3⟩ := hRo q
  have hq : ∀ a : Nat, a < s.heap.size → ¬ AS s a → H[a]? = s.heap[a]? := fun a h1 h2 => hS.2.1 a h1 h2
  refine ⟨?_, f, ?_, a3⟩
  · rw [hU]; exact ((a1.moved hW.alike).kept hq).narrow hAA
  · rw [hU]; exact ((a2.moved hW.alike).kept hq).narrow hAA
theorem lw_virt {idx o : Nat} {L' : List (Nat × Nat)} (G : Lx p s m c args) (hy : y < 271) (hv1 : (mpl y).2.1 ≠ 1) (hv2 : (mN y).name ≠ "<init>") (hv3 : mow y < 12) (hwk : Cond.methodLink R_lw idx (mN y) ∈ GW) (hd : decode code pc = .ok (.invokevirtual idx, 3)) (has : as.length = nar y) (hko : kd (kz L) o = (0, mow y)) (hs4 : (rest.map fun v => v.category).sum ≤ 8) (hE : Ev d y (pR o :: as) (kz L) P M r (kz L') P' M') (hd9 : d ≤ 1000) (hcs : cells ≤ 601024 ∧ slots ≤ 7293034) (hW : Wd D s H ad cA L P M) (hS : va_S (AS s) s.heap H locs) (hvas : ∀ v ∈ as, vok (kz L) v) (hl : ls.size = 8) (h : ∀ (ad' : Nat → Nat) (cA' : Nat → ClassId) (H' : Heap) (locs' : List Loc), (∀ o, o < L.length → ad' o = ad o) → Wd D s H' ad' cA' L' P' M' → H.size ≤ H'.size → (∀ q, q < H.size → ¬ aOf (wsOf ad cA (kz L) P M) q → H'[q]? = H[q]?) → (∀ q, aOf (wsOf ad' cA' (kz L') P' M') q → aOf (wsOf ad cA (kz L) P M) q ∨ H.size ≤ q) → va_S (AS s) s.heap H' locs' → W p l e room_1 s m args below meth c H' locs' cells slots QQ (F0 m (pc + 3) ls ((r.map (val ad')).toList ++ rest))) : W p l e room_1 s m args below meth c H locs cells slots QQ (F0 m pc ls ((as.map (val ad)).reverse ++ .ref (ad o) :: rest)) := by
  obtain ⟨f1, f2, f3, f4, f5, f6⟩ := m_facts hy
  obtain ⟨f51, f52⟩ := f5 hv1
  obtain ⟨hP, hD, ⟨tys, hK, hT⟩, hM, hPo, hKo, hRo⟩ := id hW
  obtain ⟨hx, hb, hml, hown, hts, hnx, hao⟩ := id G
  have ho : o ≠ 0 := k_ne0 hKo hko (by decide)
  have hol : o < L.length := kd_lt hko (by decide)
  have hrecv := va_recv hK hP (cls_at hv3) (ws_obj (ad := ad) (cA := cA) (P := P) (M := M) ho hko)
  have hCn : (mN y).cls = (crow (mow y)).1 := (own_crow hv3).symm
  have hml9 := mxl_le hy
  have hrm : (rmD d 0 0).frames + 1 ≤ room_1.frames ∧ 8 + (mxl y + 11) + (rmD d 0 0).locals ≤ room_1.locals := ⟨by show d + 1 + 1 ≤ 2048; omega, by show 8 + (mxl y + 11) + (60 + 60 * d) ≤ 84000; omega⟩
  have hM9 := Ev_ctr l d y (pR o :: as) (kz L) P M r (kz L') P' M' hE hy D ad cA tys H.size
  have hvas' : ∀ v ∈ pR o :: as, vok (kz L) v := by
    intro v hv
    rcases List.mem_cons.mp hv with rfl | hv
    · exact hol
    · exact hvas v hv
  refine lw_go (b := (0, 0)) (κ' := kz L') (P' := P') (M' := M') (r := r) (rest := rest) (a9 := (Value.ref (ad o) :: as.map (val ad)).toArray) hW hS ?_ h
  exact va_runV (C := (mN y).cls) (Ts := GW) (nL := 8) (n := nar y) (As := as.map (val ad)) ⟨hx, hb, hml, hown, hts⟩ hM9 (cwV (nar y) hts (gi_cons hwk (gi_cons f51 (gi_cons (f52 hv2) (gi_cons f1 (wsM_good (mi := 0) hy))))) rfl rfl rfl ⟨rfl, f2.1, f2.2, f6⟩ hrm) ⟨PcM_blind, by rw [hCn]; exact hrecv, fun U hU hWU => lw_pre (as := pR o :: as) (b := (0, 0)) G hW hS hK hT hvas' U hU hWU⟩ rfl (by simpa using has) hl rfl (lv_room hs4) hd ⟨by show cells + 0 ≤ 601024; omega, by show slots + 0 ≤ 7293034; omega⟩
end
