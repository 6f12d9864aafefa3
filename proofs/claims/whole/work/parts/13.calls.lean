/-! calls -/
def rmD (d mc ms : Nat) : Room := { frames := d + 1, cells := mc, slots := ms, locals := 60 + 60 * d }
def hTy (cA : Nat → ClassId) (tys : List (ClassId × FieldType)) (κ : KK) : Prop := ∀ o, 1 ≤ o → o < κ.2.length → 1 ≤ (kd κ o).1 → (cA o, aty (kd κ o).1) ∈ tys
def PcM (D : va_G) (ad : Nat → Nat) (cA : Nat → ClassId) (tys : List (ClassId × FieldType)) (κ : KK) (P : PM) (M : MM) (as : List PV) (sz : Nat) : Array Value → State → Prop := fun v U =>
  v = (as.map (val ad)).toArray ∧ U.heap.size = sz ∧ va_K D cls tys U ∧ va_P D cls (wsOf ad cA κ P M) U.heap ∧ va_D (fun _ => True) (wsOf ad cA κ P M) ∧ hTy cA tys κ ∧ Mok κ M ∧ Pok κ P ∧ Kok κ ∧ (∀ v ∈ as, vok κ v) ∧ NX U ∧ (va_AO "BuriedWithIt$State" U ∧ va_AO "BuriedWithIt$Path" U) ∧ Ro (va_A (wsOf ad cA κ P M) sz) ad κ M U
def QcM (D : va_G) (ad : Nat → Nat) (cA : Nat → ClassId) (κ : KK) (P : PM) (M : MM) (sz : Nat) (r : Option PV) (κ' : KK) (P' : PM) (M' : MM) : Array Value → State → Outcome → State → Prop := fun _ st oc t =>
  (∃ (ad' : Nat → Nat) (cA' : Nat → ClassId) (tys' : List (ClassId × FieldType)), (κ.2.length ≤ κ'.2.length ∧ ∀ o, o < κ.2.length → ad' o = ad o) ∧ oc = .returned (r.map (val ad')) ∧ (∀ v, r = some v → vok κ' v) ∧ va_K D cls tys' t ∧ va_P D cls (wsOf ad' cA' κ' P' M') t.heap ∧ va_D (va_A (wsOf ad cA κ P M) sz) (wsOf ad' cA' κ' P' M') ∧ hTy cA' tys' κ' ∧ Mok κ' M' ∧ Pok κ' P' ∧ Kok κ' ∧ Ro (va_A (wsOf ad cA κ P M) sz) ad' κ' M' st) ∧ va_F (va_A (wsOf ad cA κ P M) sz) st t
def Ctr (l : Launch) (d : Nat) : CR := fun y as κ P M r κ' P' M' => y < 271 → ∀ (D : va_G) (ad : Nat → Nat) (cA : Nat → ClassId) (tys : List (ClassId × FieldType)) (sz : Nat), Met l (mN y) (wsM y) (rmD d κ.1.1 κ.1.2) (PcM D ad cA tys κ P M as sz) (QcM D ad cA κ P M sz r κ' P' M') κ.1.1 κ.1.2 (va_A (wsOf ad cA κ P M) sz)
theorem PcM_blind {D : va_G} {ad : Nat → Nat} {cA : Nat → ClassId} {tys : List (ClassId × FieldType)} {κ : KK} {P : PM} {M : MM} {as : List PV} {sz : Nat} : FrameBlind (PcM D ad cA tys κ P M as sz) := by
  rintro a U g mk ⟨h1, h2, h3, h4, h5, h6, h7, h8, h9, h10, h11, h12, h13⟩
  refine ⟨h1, h2, va_K.moved (u := U) (U := U.calling g mk a) (Vm.Alike.refl U.vm) h3, h4, h5, h6, h7, h8, h9, h10, NX_same (s := U) (U := U.calling g mk a) rfl h11, ⟨va_AO.moved (u := U) (U := U.calling g mk a) (Vm.Alike.refl U.vm) h12.1, va_AO.moved (u := U) (U := U.calling g mk a) (Vm.Alike.refl U.vm) h12.2⟩, fun q => ?_⟩
  obtain ⟨a1, f, a2, a3⟩ := h13 q
  exact ⟨va_Z.moved (u := U) (U := U.calling g mk a) (Vm.Alike.refl U.vm) a1, f, va_T.moved (u := U) (U := U.calling g mk a) (Vm.Alike.refl U.vm) a2, a3⟩
theorem sumcat {ad : Nat → Nat} : ∀ (st : List PV), ((st.map (val ad)).map fun v => v.category).sum ≤ scat st
  | [] => by simp
  | v :: st => by
    have := sumcat (ad := ad) st
    simp only [List.map_cons, List.sum_cons, val_cat, scat]
    omega
theorem m_code {m : Nat} (h : m < 271) : Cond.code (mN m) (cod m) (mxl m) (rty m) ∈ GW := in_GW (mCode_ok m h) rfl
theorem GW_good : ∀ w ∈ GW, (w.onTables && w.keeps) = true ∨ ∃ ty, w = .arrayClass ty := fun w h => good_of_word (List.mem_filter.mp h).2
theorem wsM_good {mi y : Nat} (h : y < 271) : GoodIn GW (wsM y) := by
  intro w hw
  rcases List.mem_cons.mp hw with rfl | hw
  · exact ⟨m_code h, GW_good _ (m_code h)⟩
  · exact ⟨hw, GW_good w hw⟩
set_option maxRecDepth 100000 in
theorem mxl_ok : (List.range 271).all (fun m => decide (mxl m ≤ 20)) = true := by decide +kernel
theorem mxl_le {m : Nat} (h : m < 271) : mxl m ≤ 20 := by
  have := List.all_eq_true.mp mxl_ok m (List.mem_range.mpr h)
  simpa using this
theorem m_facts {m : Nat} (h : m < 271) : (Cond.initialized (mN m).cls ∈ GW) ∧ ((mN m).cls ≠ "java/lang/invoke/MethodHandle" ∧ (mN m).cls ≠ "java/lang/invoke/VarHandle") ∧ plainName (mN m).cls = true ∧ ((mpl m).2.1 = 1 → Cond.static (mN m) ∈ GW) ∧ ((mpl m).2.1 ≠ 1 → Cond.instanceMethod (mN m) ∈ GW ∧ ((mN m).name ≠ "<init>" → Cond.selects (mN m).cls (mN m) (mN m) ∈ GW)) ∧ (parseMethodDescriptor (mN m).desc).map (fun d => d.parameters.length) = some (nar m) := by
  have hc := mChk_ok m h
  unfold chkM at hc
  dsimp only at hc
  simp only [Bool.and_eq_true, decide_eq_true_eq] at hc
  obtain ⟨⟨⟨⟨h1, h2⟩, h3⟩, h4⟩, h5⟩ := hc
  refine ⟨in_GW h1 rfl, h3, h2, fun q => ?_, fun q => ?_, ?_⟩
  · rw [if_pos q] at h4
    exact in_GW (by simpa using h4) rfl
  · rw [if_neg q] at h4
    simp only [Bool.and_eq_true, decide_eq_true_eq, Bool.or_eq_true] at h4
    exact ⟨in_GW h4.1 rfl, fun z => in_GW (h4.2.resolve_left z) rfl⟩
  · show (parseMethodDescriptor (mrow m).2.2.1).map (fun d => d.parameters.length) = some (nar m)
    unfold nar
    cases hp : parseMethodDescriptor (mrow m).2.2.1 with
    | none => rw [hp] at h5; cases h5
    | some x => rfl
theorem k_ok {ow idx c y : Nat} (h : CTb ow idx = some (c, y)) : y < 271 ∧ c ≤ 10 ∧ (∃ j : Nat, lw_tbl[j]? = some (kLk (ow, idx, c, y))) ∧ (c < 2 → (mpl y).2.1 = 0 ∧ (mN y).name ≠ "<init>" ∧ mow y < 12) ∧ (2 ≤ c → c < 4 → (mpl y).2.1 = 1) ∧ (4 ≤ c → c < 6 → (mpl y).2.1 = 0 ∧ (mN y).name = "<init>" ∧ rty y = none) := by
  unfold CTb at h
  obtain ⟨e, he, he2⟩ := Option.map_eq_some_iff.mp h
  have hp := List.find?_some he
  simp only [Bool.and_eq_true, beq_iff_eq] at hp
  obtain ⟨i, hi⟩ := List.getElem?_of_mem (List.mem_of_find?_eq_some he)
  have hl : i < kplc.length := by rw [← kchk.2]; exact (List.getElem?_eq_some_iff.mp hi).1
  have hz : (ktab.zip kplc)[i]? = some (e, kplc[i]) := by rw [List.getElem?_zip_eq_some]; exact ⟨hi, List.getElem?_eq_getElem hl⟩
  have hc := List.all_eq_true.mp kchk.1 _ (List.mem_of_getElem? hz)
  obtain ⟨e1, e2, e3, e4⟩ := e
  simp only [Prod.mk.injEq] at he2
  obtain ⟨q1, q2⟩ := he2
  dsimp only at q1 q2 hp
  obtain ⟨hp1, hp2⟩ := hp
  subst q1 q2 hp1 hp2
  simp only [chkK, Bool.and_eq_true, decide_eq_true_eq] at hc
  obtain ⟨⟨⟨h1, h2⟩, h3⟩, h4⟩ := hc
  refine ⟨h1, h2, ⟨_, h3⟩, fun z => ?_, fun z z2 => ?_, fun z z2 => ?_⟩
  · rw [if_pos z] at h4
    simpa using h4
  · rw [if_neg (by omega), if_pos z2] at h4
    simpa using h4
  · rw [if_neg (by omega), if_neg (by omega), if_pos z2] at h4
    simpa using h4
section HC
variable {p : Program} {l : Launch} {e : Env} {R : Room} {s : State} {m : MethodId} {args : Array Value} {below : List Frame} {meth : Method} {c : Code} {mi : Nat} {z : Nat × (Nat → Nat)} {D : va_G} {A : Nat → Prop} {QQ : State → Prop} {E : CR} {Q : QT} {X : XT} {len pc idx : Nat} {pl : PL} {st : List PV} {κ : KK} {P : PM} {M : MM}
theorem call_A {ad : Nat → Nat} {cA : Nat → ClassId} {tys : List (ClassId × FieldType)} {H : Heap} {locs : List Loc} {cells slots : Nat} (hA : ∀ q, s.heap.size ≤ q → A q) (I : Inv z D A R s ad cA tys κ P M H locs cells slots) : ∀ q, va_A (wsOf ad cA κ P M) H.size q → A q := by
  obtain ⟨hK, hP, hD, hS, hT, hM, hPo, hKo, hcs, hRo⟩ := I
  rintro q (⟨k, e9, h⟩ | h)
  · exact hD.2 k (q, e9) h
  · exact hA q (Nat.le_trans hS.1 h)
theorem call_pre (G : Gx p R s m args meth c mi A) {ad : Nat → Nat} {cA : Nat → ClassId} {tys : List (ClassId × FieldType)} {H : Heap} {locs : List Loc} {cells slots : Nat} {as : List PV} {b : Nat × Nat} (I : Inv z D A R s ad cA tys κ P M H locs cells slots) (has : ∀ v ∈ as, vok κ v) : ∀ U : State, U.heap = H → s.WarmedH U.vm → PcM D ad cA tys (b, κ.2) P M as H.size (as.map (val ad)).toArray U := by
  obtain ⟨hx, hb, hml, hown, hts, hnx, hao, hA, hname, hroom, hmi⟩ := G
  have hAA := call_A hA I
  obtain ⟨hK, hP, hD, hS, hT, hM, hPo, hKo, hcs, hRo⟩ := I
  intro U hU hW
  refine ⟨rfl, by rw [hU], va_K.moved hW.alike hK, by rw [hU]; exact hP, hD.weaken (fun _ _ _ _ => trivial), hT, hM, hPo, hKo, has, NX_warm hW hnx, ⟨va_AO.moved hW.alike hao.1, va_AO.moved hW.alike hao.2⟩, fun q => ?_⟩
  obtain ⟨a1, f, a2, a3⟩ := hRo q
  have hq : ∀ a : Nat, a < s.heap.size → ¬ A a → H[a]? = s.heap[a]? := fun a h1 h2 => hS.2.1 a h1 h2
  refine ⟨?_, f, ?_, a3⟩
  · rw [hU]; exact ((a1.moved hW.alike).kept hq).narrow hAA
  · rw [hU]; exact ((a2.moved hW.alike).kept hq).narrow hAA
theorem call_go (G : Gx p R s m args meth c mi A) {ad : Nat → Nat} {cA : Nat → ClassId} {tys : List (ClassId × FieldType)} {H : Heap} {locs : List Loc} {cells slots : Nat} {ls : Array Slot} {b : Nat × Nat} {r : Option PV} {κ' : KK} {P' : PM} {M' : MM} {st0 : List Value} {st1 : List PV} {a9 : Array Value} (I : Inv z D A R s ad cA tys κ P M H locs cells slots) (hb : b.1 ≤ κ.1.1 ∧ b.2 ≤ κ.1.2)
    (hr : va_Run p l e R s m args below meth c H locs cells slots b.1 b.2 (F0 m pc ls st0) (st1.map (val ad)) (QcM D ad cA (b, κ.2) P M H.size r κ' P' M' a9) (va_A (wsOf ad cA κ P M) H.size))
    (hl : lv_has ls (mxl mi) (lst ad pl)) (hn : pl.length = mxl mi) (hst : ∀ v ∈ st1, vok κ v) (hpl : ∀ v, some v ∈ pl → vok κ v)
    (h : Snd p l e R s m args below meth c mi z D A QQ (pc + 3) pl (r.toList ++ st1) ((κ.1.1 - b.1, κ.1.2 - b.2), κ'.2) P' M') : W p l e R s m args below meth c H locs cells slots QQ (F0 m pc ls st0) := by
  obtain ⟨hx, hb9, hml, hown, hts, hnx, hao, hA, hname, hroom, hmi⟩ := G
  have hAA := call_A hA I
  obtain ⟨hK, hP, hD, hS, hT, hM, hPo, hKo, hcs, hRo⟩ := I
  intro T hTT X9
  obtain ⟨v, st9, t, T2, L, h0, X2, hL, e1, e2, ⟨⟨ad', cA', tys', ⟨hlen, hag⟩, hoc, hrv, k1, k2, k3, k4, k5, k6, k7, k8⟩, hF1, hF2⟩, stp⟩ := hr T hTT X9
  rw [h0] at hF1 hF2
  have hS2 : va_S A s.heap T2.heap (locs ++ L) := by
    refine ⟨Nat.le_trans hS.1 (by rw [e1]; exact hF1), fun q h1 h2 => ?_, fun q hq => ?_⟩
    · rw [e1, hF2 q (Nat.lt_of_lt_of_le h1 hS.1) (fun w => h2 (hAA q w))]
      exact hS.2.1 q h1 h2
    · rcases List.mem_append.mp hq with w | w
      · exact hS.2.2 q w
      · exact hAA _ (hL q w)
  have hag9 : ∀ o, o < κ.2.length → ad' o = ad o := hag
  have hlen9 : κ.2.length ≤ κ'.2.length := hlen
  have hvm : s.vm.Alike t.vm := by rw [← e2]; exact X2.warmed.alike
  have I2 : Inv z D A R s ad' cA' tys' ((κ.1.1 - b.1, κ.1.2 - b.2), κ'.2) P' M' T2.heap (locs ++ L) (cells + b.1) (slots + b.2) := by
    refine ⟨va_K.moved hvm.symm k1, by rw [e1]; exact k2, k3.weaken (fun _ q _ w => hAA _ w), hS2, k4, k5, k6, k7, ⟨⟨?_, ?_⟩, ?_, fun o ho => ?_⟩, fun q => ?_⟩
    · show cells + b.1 + (κ.1.1 - b.1) = R.cells
      omega
    · show slots + b.2 + (κ.1.2 - b.2) = R.slots
      omega
    · exact Nat.le_trans hcs.2.1 hlen9
    · rw [hag9 o (Nat.lt_of_lt_of_le ho hcs.2.1)]
      exact hcs.2.2 o ho
    · have hz0 := hag9 0 hKo.1.1
      obtain ⟨a1, f, a2, a3⟩ := hRo hKo.1.2
      obtain ⟨_, f', b2, b3⟩ := k8 k7.1.2
      rw [hz0] at b2 ⊢
      refine ⟨a1, f, a2, fun j hj => ?_⟩
      obtain ⟨c1, x1, x2, x3, x4, x5, x6, x7⟩ := a2
      obtain ⟨c2, y1, y2, y3, y4, y5, y6, y7⟩ := b2
      have ec : c1 = c2 := by
        have w1 := hS.2.1 (ad 0) (Array.getElem?_eq_some_iff.mp x1).1 x7
        rw [h0] at y1
        rw [w1, x1] at y1
        exact Option.some.inj y1
      subst ec
      have w2 := y6 j hj
      rw [x6 j hj] at w2
      rw [Option.some.inj w2]
      exact b3 j hj
  have fin9 := h ad' cA' tys' T2.heap (locs ++ L) (cells + b.1) (slots + b.2) ls I2 (lst_ext hag9 hpl hl) hn (fun v hv => ?_) (fun v hv => vok_mono hlen9 (hpl v hv))
  · have ev : (r.toList ++ st1).map (val ad') = v.toList ++ st1.map (val ad) := by
      rw [List.map_append, vals_ext hag9 hst]
      congr 1
      cases hoc
      cases r <;> rfl
    rw [ev] at fin9
    obtain ⟨t3, f1, f2⟩ := fin9 T2 rfl X2
    exact ⟨t3, stp t3 f1, f2⟩
  · rcases List.mem_append.mp hv with w | w
    · cases r with
      | none => cases w
      | some r0 =>
        rw [List.mem_singleton.mp w]
        exact hrv r0 rfl
    · exact vok_mono hlen9 (hst v w)
end HC
