/-! calls of the class out of any frame of the law's class, returning or throwing -/
def WdA (A : Nat → Prop) (D : va_G) (s : State) (H : Heap) (ad : Nat → Nat) (cA : Nat → ClassId) (L : List (Nat × Nat)) (P : PM) (M : MM) : Prop := va_P D cls (wsOf ad cA (kz L) P M) H ∧ va_D A (wsOf ad cA (kz L) P M) ∧ (∃ tys, va_K D cls tys s ∧ hTy cA tys (kz L)) ∧ Mok (kz L) M ∧ Pok (kz L) P ∧ Kok (kz L) ∧ Ro A ad (kz L) M s
def PostW (A : Nat → Prop) (D : va_G) (ad : Nat → Nat) (L : List (Nat × Nat)) (st t : State) (ad' : Nat → Nat) (cA' : Nat → ClassId) (L' : List (Nat × Nat)) (P' : PM) (M' : MM) : Prop := (∀ o, o < L.length → ad' o = ad o) ∧ va_P D cls (wsOf ad' cA' (kz L') P' M') t.heap ∧ va_D A (wsOf ad' cA' (kz L') P' M') ∧ (∃ tys', va_K D cls tys' t ∧ hTy cA' tys' (kz L')) ∧ Mok (kz L') M' ∧ Pok (kz L') P' ∧ Kok (kz L') ∧ Ro A ad' (kz L') M' st ∧ va_F A st t
theorem Qc_post {D : va_G} {ad : Nat → Nat} {cA : Nat → ClassId} {b : Nat × Nat} {L : List (Nat × Nat)} {P P' : PM} {M M' : MM} {sz : Nat} {r : Option PV} {κ' : KK} {a : Array Value} {st t : State} {oc : Outcome} (h : QcM D ad cA (b, L) P M sz r κ' P' M' a st oc t) : ∃ ad' cA', oc = .returned (r.map (val ad')) ∧ PostW (va_A (wsOf ad cA (kz L) P M) sz) D ad L st t ad' cA' κ'.2 P' M' := by
  obtain ⟨⟨ad', cA', tys', ⟨hlen, hag⟩, hoc, hrv, k1, k2, k3, k4, k5, k6, k7, k8⟩, hF⟩ := h
  exact ⟨ad', cA', hoc, hag, k2, k3, ⟨tys', k1, k4⟩, k5, k6, k7, k8, hF⟩
theorem WdA_lt {A : Nat → Prop} {D : va_G} {s : State} {H : Heap} {ad : Nat → Nat} {cA : Nat → ClassId} {L : List (Nat × Nat)} {P : PM} {M : MM} (h : WdA A D s H ad cA L P M) {q : Nat} (hq : aOf (wsOf ad cA (kz L) P M) q) : q < H.size ∧ A q := by
  obtain ⟨k, e, hk⟩ := hq
  exact ⟨va_at_lt (h.1 k (q, e) hk), h.2.1.2 k (q, e) hk⟩
theorem WdA_A {A : Nat → Prop} {D : va_G} {s : State} {H : Heap} {ad : Nat → Nat} {cA : Nat → ClassId} {L : List (Nat × Nat)} {P : PM} {M : MM} {locs : List Loc} (h : WdA A D s H ad cA L P M) (hA : ∀ q, s.heap.size ≤ q → A q) (hS : va_S A s.heap H locs) : ∀ q, va_A (wsOf ad cA (kz L) P M) H.size q → A q := by
  rintro q (hq | hq)
  · exact (WdA_lt h hq).2
  · exact hA q (Nat.le_trans hS.1 hq)
theorem wd_next {A A1 : Nat → Prop} {D : va_G} {s st t : State} {H : Heap} {ad ad' : Nat → Nat} {cA cA' : Nat → ClassId} {L L' : List (Nat × Nat)} {P P' : PM} {M M' : MM} {locs : List Loc} (hA1 : ∀ q, A1 q → A q) (hW : WdA A D s H ad cA L P M) (hS : va_S A s.heap H locs) (h0 : st.heap = H) (hvm : s.vm.Alike t.vm) (h : PostW A1 D ad L st t ad' cA' L' P' M') : WdA A D s t.heap ad' cA' L' P' M' ∧ H.size ≤ t.heap.size ∧ (∀ q, q < H.size → ¬ A1 q → t.heap[q]? = H[q]?) ∧ (∀ q, aOf (wsOf ad' cA' (kz L') P' M') q → A1 q) ∧ ∀ Lc : List Loc, (∀ q ∈ Lc, A1 q.base) → va_S A s.heap t.heap (locs ++ Lc) := by
  obtain ⟨hag, k2, k3, ⟨tys', k1, k4⟩, k5, k6, k7, k8, hF1, hF2⟩ := h
  rw [h0] at hF1 hF2
  obtain ⟨hP, hD, ⟨tys, hK, hT⟩, hM, hPo, hKo, hRo⟩ := hW
  refine ⟨⟨k2, k3.weaken (fun _ q _ w => hA1 _ w), ⟨tys', va_K.moved hvm.symm k1, k4⟩, k5, k6, k7, fun q => ?_⟩, hF1, hF2, fun q hq => ?_, fun Lc hL => ⟨Nat.le_trans hS.1 hF1, fun q h1 h2 => ?_, fun q hq => ?_⟩⟩
  · have hz0 := hag 0 hKo.1.1
    obtain ⟨a1, f, a2, a3⟩ := hRo hKo.1.2
    obtain ⟨_, f', b2, b3⟩ := k8 k7.1.2
    rw [hz0] at b2 ⊢
    refine ⟨a1, f, a2, fun j hj => ?_⟩
    obtain ⟨c1, x1, x2, x3, x4, x5, x6, x7⟩ := a2
    obtain ⟨c2, y1, y2, y3, y4, y5, y6, y7⟩ := b2
    have ec : c1 = c2 := by
      have w1 := hS.2.1 (ad 0) (Array.getElem?_eq_some_iff.mp x1).1 x7
      rw [h0] at y1
      rw [w1, x1] at y1
      exact Option.some.inj y1
    subst ec
    have w2 := y6 j hj
    rw [x6 j hj] at w2
    rw [Option.some.inj w2]
    exact b3 j hj
  · obtain ⟨k, e9, hk⟩ := hq
    exact k3.2 k (q, e9) hk
  · rw [hF2 q (Nat.lt_of_lt_of_le h1 hS.1) (fun w => h2 (hA1 q w))]
    exact hS.2.1 q h1 h2
  · rcases List.mem_append.mp hq with w | w
    · exact hS.2.2 q w
    · exact hA1 _ (hL q w)
/-- what a frame of the law's class has -/
def Hx (p : Program) (s : State) (m : MethodId) (c : Code) (args : Array Value) (cc : ByteArray) (nL : Nat) (A : Nat → Prop) : Prop := p.tables.exec = Jvm.exec ∧ c.code = cc ∧ c.maxLocals = nL ∧ s.vm.findClass R_lw = some m.cls ∧ (∀ w ∈ GW, w.before args s = true) ∧ NX s ∧ (va_AO "BuriedWithIt$State" s ∧ va_AO "BuriedWithIt$Path" s) ∧ (∀ q, s.heap.size ≤ q → A q) ∧ Th A s
section
variable {p : Program} {l : Launch} {e : Env} {R : Room} {s : State} {m : MethodId} {args : Array Value} {below : List Frame} {meth : Method} {c : Code} {D : va_G} {QQ : State → Prop} {pc d y nL : Nat} {L L' : List (Nat × Nat)} {P P' : PM} {M M' : MM} {r : Option PV} {as : List PV} {b : Nat × Nat} {ad : Nat → Nat} {cA : Nat → ClassId} {H : Heap} {locs : List Loc} {cells slots : Nat} {ls : Array Slot} {rest : List Value} {cc : ByteArray} {A : Nat → Prop} {idx o : Nat}
theorem hw_pre (G : Hx p s m c args cc nL A) (hW : WdA A D s H ad cA L P M) (hS : va_S A s.heap H locs) {tys : List (ClassId × FieldType)} (hK : va_K D cls tys s) (hT : hTy cA tys (kz L)) (has : ∀ v ∈ as, vok (kz L) v) : ∀ U : State, U.heap = H → s.WarmedH U.vm → PcM D ad cA tys (b, L) P M as H.size (as.map (val ad)).toArray U ∧ Th (va_A (wsOf ad cA (kz L) P M) H.size) U := by
  obtain ⟨hx, hb, hml, hown, hts, hnx, hao, hA, hcd, hU0, hN0⟩ := G
  have hAA := WdA_A hW hA hS
  obtain ⟨hP, hD, _, hM, hPo, hKo, hRo⟩ := hW
  intro U hU hW
  have hq : ∀ a : Nat, a < s.heap.size → ¬ A a → H[a]? = s.heap[a]? := fun a h1 h2 => hS.2.1 a h1 h2
  refine ⟨⟨rfl, by rw [hU], va_K.moved hW.alike hK, by rw [hU]; exact hP, hD.weaken (fun _ _ _ _ => trivial), hT, hM, hPo, hKo, has, NX_warm hW hnx, ⟨va_AO.moved hW.alike hao.1, va_AO.moved hW.alike hao.2⟩, fun q => ?_⟩, CD_warm hW hcd, ?_, ?_⟩
  · obtain ⟨a1, f, a2, a3⟩ := hRo q
    refine ⟨?_, f, ?_, a3⟩
    · rw [hU]; exact ((a1.moved hW.alike).kept hq).narrow hAA
    · rw [hU]; exact ((a2.moved hW.alike).kept hq).narrow hAA
  · rw [hU]; exact ((hU0.moved hW.alike).kept hq).narrow hAA
  · rw [hU]; exact ((hN0.moved hW.alike).kept hq).narrow hAA
theorem PcT_blind {A : Nat → Prop} {tys : List (ClassId × FieldType)} {κ : KK} {sz : Nat} : FrameBlind (fun a U => PcM D ad cA tys κ P M as sz a U ∧ Th A U) := by
  rintro a U g mk ⟨h, hcd, h1, h2⟩
  exact ⟨PcM_blind _ _ _ _ h, CD_same (s := U) (U := U.calling g mk a) rfl hcd, vx_Zq.moved (u := U) (U := U.calling g mk a) (Vm.Alike.refl U.vm) h1, vx_Zq.moved (u := U) (U := U.calling g mk a) (Vm.Alike.refl U.vm) h2⟩
theorem hw_ret (G : Hx p s m c args cc nL A) (hy : y < 271 ∧ (mpl y).2.1 ≠ 1 ∧ (mN y).name ≠ "<init>" ∧ mow y < 12) (hwk : Cond.methodLink R_lw idx (mN y) ∈ GW) (hd : decode cc pc = .ok (.invokevirtual idx, 3)) (has : as.length = nar y) (hko : kd (kz L) o = (0, mow y)) (hs4 : (rest.map fun v => v.category).sum ≤ 8) (hE : Ev d y (pR o :: as) (kz L) P M r (kz L') P' M') (hR : d + 2 ≤ R.frames ∧ 99 + 60 * d ≤ R.locals) (hcs : cells ≤ R.cells ∧ slots ≤ R.slots) (hW : WdA A D s H ad cA L P M) (hS : va_S A s.heap H locs) (hvas : ∀ v ∈ as, vok (kz L) v) (hl : ls.size = nL) (h : ∀ (ad' : Nat → Nat) (cA' : Nat → ClassId) (H' : Heap) (locs' : List Loc), (∀ o, o < L.length → ad' o = ad o) → WdA A D s H' ad' cA' L' P' M' → H.size ≤ H'.size → (∀ q, q < H.size → ¬ aOf (wsOf ad cA (kz L) P M) q → H'[q]? = H[q]?) → (∀ q, aOf (wsOf ad' cA' (kz L') P' M') q → aOf (wsOf ad cA (kz L) P M) q ∨ H.size ≤ q) → va_S A s.heap H' locs' → W p l e R s m args below meth c H' locs' cells slots QQ (F0 m (pc + 3) ls ((r.map (val ad')).toList ++ rest))) : W p l e R s m args below meth c H locs cells slots QQ (F0 m pc ls ((as.map (val ad)).reverse ++ .ref (ad o) :: rest)) := by
  obtain ⟨hy, hv1, hv2, hv3⟩ := hy
  obtain ⟨f1, f2, f3, f4, f5, f6⟩ := m_facts hy
  obtain ⟨f51, f52⟩ := f5 hv1
  obtain ⟨hP, hD, ⟨tys, hK, hT⟩, hM, hPo, hKo, hRo⟩ := id hW
  obtain ⟨hx, hb, hml, hown, hts, hnx, hao, hA, hth⟩ := id G
  have ho : o ≠ 0 := k_ne0 hKo hko (by decide)
  have hol : o < L.length := kd_lt hko (by decide)
  have hrecv := va_recv hK hP (cls_at hv3) (ws_obj (ad := ad) (cA := cA) (P := P) (M := M) ho hko)
  have hCn : (mN y).cls = (crow (mow y)).1 := (own_crow hv3).symm
  have hml9 := mxl_le hy
  have hrm : (rmD d 0 0).frames + 1 ≤ R.frames ∧ 8 + (mxl y + 11) + (rmD d 0 0).locals ≤ R.locals := ⟨by show d + 1 + 1 ≤ _; omega, by show 8 + (mxl y + 11) + (60 + 60 * d) ≤ _; omega⟩
  have hM9 := Ev_ctr l d y (pR o :: as) (kz L) P M r (kz L') P' M' hE hy D ad cA tys H.size
  have hvas' : ∀ v ∈ pR o :: as, vok (kz L) v := by
    intro v hv
    rcases List.mem_cons.mp hv with rfl | hv
    · exact hol
    · exact hvas v hv
  have hr := va_runV (e := e) (below := below) (meth := meth) (R := R) (locs := locs) (cells := cells) (slots := slots) (g := F0 m pc ls ((as.map (val ad)).reverse ++ .ref (ad o) :: rest)) (rest := rest) (index := idx) (C := (mN y).cls) (Ts := GW) (nL := nL) (n := nar y) (As := as.map (val ad)) ⟨hx, hb, hml, hown, hts⟩ hM9 (cwV (nar y) hts (gi_cons hwk (gi_cons f51 (gi_cons (f52 hv2) (gi_cons f1 (wsM_good (mi := 0) hy))))) rfl rfl rfl ⟨rfl, f2.1, f2.2, f6⟩ hrm) ⟨PcM_blind, by rw [hCn]; exact hrecv, fun U hU hWU => (hw_pre (as := pR o :: as) (b := (0, 0)) G hW hS hK hT hvas' U hU hWU).1⟩ rfl (by simpa using has) hl rfl (lv_room hs4) hd ⟨by show cells + 0 ≤ _; omega, by show slots + 0 ≤ _; omega⟩
  intro T hTT X9
  obtain ⟨v, st9, t, T2, Lc, h0, X2, hL, e1, e2, hq, stp⟩ := hr T hTT X9
  obtain ⟨ad', cA', hoc, hpost⟩ := Qc_post hq
  obtain ⟨n1, n2, n3, n4, n5⟩ := wd_next (WdA_A hW hA hS) hW hS h0 (by rw [← e2]; exact X2.warmed.alike) hpost
  rw [← e1] at n1 n2 n3 n5
  have hoc' : v = r.map (val ad') := by cases hoc; rfl
  obtain ⟨t3, g1, g2⟩ := h ad' cA' T2.heap (locs ++ Lc) hpost.1 n1 n2 (fun q h1 h2 => n3 q h1 (fun w => w.elim h2 (fun w => by omega))) n4 (n5 Lc hL) T2 rfl X2
  rw [← hoc'] at g1
  exact ⟨t3, stp t3 g1, g2⟩
theorem hw_thr {pcx : Nat} (hl9 : l.stackTraces = false) (hd5 : 5 ≤ d) (hdec : thrD y pcx = true) (G : Hx p s m c args cc nL A) (hy : y < 271 ∧ (mpl y).2.1 ≠ 1 ∧ (mN y).name ≠ "<init>" ∧ mow y = 10) (hwk : Cond.methodLink R_lw idx (mN y) ∈ GW) (hd : decode cc pc = .ok (.invokevirtual idx, 3)) (has : as.length = nar y) (hko : kd (kz L) o = (0, mow y)) (hs4 : (rest.map fun v => v.category).sum ≤ 8) (hE : EvY d y pcx (pR o :: as) (kz L) P M) (hR : d + 3 ≤ R.frames ∧ 159 + 60 * d ≤ R.locals) (hcs : cells + 1 ≤ R.cells ∧ slots + 6 ≤ R.slots) (hW : WdA A D s H ad cA L P M) (hS : va_S A s.heap H locs) (hvas : ∀ v ∈ as, vok (kz L) v) (hl : ls.size = nL) (h : ∀ (ad' : Nat → Nat) (cA' : Nat → ClassId) (H' : Heap) (locs' : List Loc) (q9 : Addr) (ce : Cell), (∀ o, o < L.length → ad' o = ad o) → WdA A D s H' ad' cA' L P M → H.size ≤ H'.size → (∀ q, q < H.size → ¬ aOf (wsOf ad cA (kz L) P M) q → H'[q]? = H[q]?) → (∀ q, aOf (wsOf ad' cA' (kz L) P M) q → aOf (wsOf ad cA (kz L) P M) q ∨ H.size ≤ q) → va_S A s.heap H' locs' → H'[q9]? = some ce → ce.vm = .none → s.vm.findClass nse = some ce.cls → vx_W p l e R s m args below meth c H' locs' (cells + 1) (slots + 6) QQ (F0 m pc ls rest) q9) : W p l e R s m args below meth c H locs cells slots QQ (F0 m pc ls ((as.map (val ad)).reverse ++ .ref (ad o) :: rest)) := by
  obtain ⟨hy, hv1, hv2, hv10⟩ := hy
  have hv3 : mow y < 12 := by omega
  obtain ⟨f1, f2, f3, f4, f5, f6⟩ := m_facts hy
  obtain ⟨f51, f52⟩ := f5 hv1
  obtain ⟨hP, hD, ⟨tys, hK, hT⟩, hM, hPo, hKo, hRo⟩ := id hW
  obtain ⟨hx, hb, hml, hown, hts, hnx, hao, hA, hth⟩ := id G
  have ho : o ≠ 0 := k_ne0 hKo hko (by decide)
  have hol : o < L.length := kd_lt hko (by decide)
  have hrecv := va_recv hK hP (cls_at hv3) (ws_obj (ad := ad) (cA := cA) (P := P) (M := M) ho hko)
  have hCn : (mN y).cls = (crow (mow y)).1 := (own_crow hv3).symm
  have hml9 := mxl_le hy
  have hrm : (rmD (d + 1) 1 6).frames + 1 ≤ R.frames ∧ 8 + (mxl y + 11) + (rmD (d + 1) 1 6).locals ≤ R.locals := ⟨by show d + 1 + 1 + 1 ≤ _; omega, by show 8 + (mxl y + 11) + (60 + 60 * (d + 1)) ≤ _; omega⟩
  have hM9 := EvY_ctr l hl9 hE hd5 hy hv10 hdec D ad cA tys H.size
  have hvas' : ∀ v ∈ pR o :: as, vok (kz L) v := by
    intro v hv
    rcases List.mem_cons.mp hv with rfl | hv
    · exact hol
    · exact hvas v hv
  have hr := vx_runV (e := e) (below := below) (meth := meth) (R := R) (locs := locs) (cells := cells) (slots := slots) (g := F0 m pc ls ((as.map (val ad)).reverse ++ .ref (ad o) :: rest)) (rest := rest) (index := idx) (C := (mN y).cls) (Ts := GW) (nL := nL) (n := nar y) (As := as.map (val ad)) ⟨hx, hb, hml, hown, hts⟩ hM9 (cwV (nar y) hts (gi_cons hwk (gi_cons f51 (gi_cons (f52 hv2) (gi_cons f1 (wsM_good (mi := 0) hy))))) rfl rfl rfl ⟨rfl, f2.1, f2.2, f6⟩ hrm) ⟨PcT_blind, by rw [hCn]; exact hrecv, fun U hU hWU => hw_pre (as := pR o :: as) (b := (0, 0)) G hW hS hK hT hvas' U hU hWU⟩ rfl (by simpa using has) hl rfl (lv_room hs4) hd hcs
  intro T hTT X9
  rcases hr T hTT X9 with ⟨v, st9, t, T2, Lc, h0, X2, hL, e1, e2, hq, stp⟩ | ⟨q9, st9, t, T2, Lc, E9, ce, h0, X2, hL, e1, e2, ⟨rfl, hq⟩, hce, hcv, hcl, stp⟩
  · exact hq.elim
  · obtain ⟨ad', cA', hoc, hpost⟩ := Qc_post hq
    obtain ⟨n1, n2, n3, n4, n5⟩ := wd_next (WdA_A hW hA hS) hW hS h0 (by rw [← e2]; exact X2.warmed.alike) hpost
    rw [← e1] at n1 n2 n3 n5 hce
    obtain ⟨t3, g1, g2⟩ := h ad' cA' T2.heap (locs ++ Lc) q9 ce hpost.1 n1 n2 (fun q h1 h2 => n3 q h1 (fun w => w.elim h2 (fun w => by omega))) n4 (n5 Lc hL) hce hcv hcl T2 rfl X2
    exact ⟨t3, stp.trans g1, g2⟩
end
