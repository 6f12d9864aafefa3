/-! the law's own helpers: field, goer, row of a BuriedWithIt, into a cell of an array; 1 where it throws -/
def AH (ws : va_W) (oa sz : Nat) : Nat → Prop := fun q => aOf ws q ∨ q = oa ∨ sz ≤ q
def oE (cO : ClassId) (f : Nat → Int64) : va_E := .inl (cO, 1, .inr (.inl f))
def HP (D : va_G) (ad : Nat → Nat) (cA : Nat → ClassId) (P : PM) (M : MM) (xs : List Int32) (oa : Nat) (cO : ClassId) (f : Nat → Int64) (sz : Nat) : Array Value → State → Prop := fun a U =>
  a = (Value.ref (ad 1) :: (xs.map Value.int ++ [.ref oa])).toArray ∧ U.heap.size = sz ∧ WdA (AH (wsOf ad cA (kz LC) P M) oa sz) D U U.heap ad cA LC P M ∧ (va_P D cls [(oa, oE cO f)] U.heap ∧ va_K D cls [(cO, .long)] U) ∧ NX U ∧ (va_AO "BuriedWithIt$State" U ∧ va_AO "BuriedWithIt$Path" U) ∧ Th (AH (wsOf ad cA (kz LC) P M) oa sz) U ∧ ¬ aOf (wsOf ad cA (kz LC) P M) oa ∧ oa < sz
def HQ (D : va_G) (ad : Nat → Nat) (cA : Nat → ClassId) (P : PM) (M : MM) (oa : Nat) (cO : ClassId) (sz : Nat) (rr : Int32) (P' : PM) (M' : MM) (xo : Int64) : Array Value → State → Outcome → State → Prop := fun _ st oc t =>
  oc = .returned (some (.int rr)) ∧ ∃ ad' cA' f', PostW (AH (wsOf ad cA (kz LC) P M) oa sz) D ad LC st t ad' cA' LC P' M' ∧ va_P D cls [(oa, oE cO f')] t.heap ∧ f' 0 = xo ∧ ¬ aOf (wsOf ad' cA' (kz LC) P' M') oa ∧ ∀ q, aOf (wsOf ad' cA' (kz LC) P' M') q → aOf (wsOf ad cA (kz LC) P M) q ∨ sz ≤ q
def wsH (N : MethodName) (cc : ByteArray) (nl : Nat) (hh : List (Nat × Nat × Nat × Nat)) : List Cond := .codeWith N cc nl (some .int) hh :: GW
def hd2 (cc : ByteArray) (idx : Nat) : Bool := decide (decode cc 0 = .ok (.aload_n 3, 1)) && (decide (decode cc 1 = .ok (.iconst 0, 1)) && (decide (decode cc 2 = .ok (.aload_n 0, 1)) && (decide (decode cc 3 = .ok (.iload_n 1, 1)) && (decide (decode cc 4 = .ok (.iload_n 2, 1)) && (decide (decode cc 5 = .ok (.invokevirtual idx, 3)) && (decide (decode cc 8 = .ok (.i2l, 1)) && (decide (decode cc 9 = .ok (.lastore, 1)) && (decide (decode cc 10 = .ok (.goto 7, 3)) && (decide (decode cc 13 = .ok (.astore 4, 2)) && (decide (decode cc 15 = .ok (.iconst 1, 1)) && (decide (decode cc 16 = .ok (.ireturn, 1)) && (decide (decode cc 17 = .ok (.iconst 0, 1)) && decide (decode cc 18 = .ok (.ireturn, 1))))))))))))))
theorem thr_cast : Cond.castable nse nse ∈ thrW := by decide +kernel
theorem P_cons {D : va_G} {w : va_W} {x : Nat × va_E} {H : Heap} (h1 : va_P D cls [x] H) (h2 : va_P D cls w H) : va_P D cls (x :: w) H := by
  intro k q hk
  cases k with
  | zero => exact h1 0 q hk
  | succ k => exact h2 k q hk
theorem P_hd {D : va_G} {w : va_W} {x : Nat × va_E} {H : Heap} (h : va_P D cls (x :: w) H) : va_P D cls [x] H := by
  intro k q hk
  cases k with
  | zero => exact h 0 q hk
  | succ k => cases hk
theorem P_tl {D : va_G} {w : va_W} {x : Nat × va_E} {H : Heap} (h : va_P D cls (x :: w) H) : va_P D cls w H := fun k q hk => h (k + 1) q hk
theorem D_cons {A : Nat → Prop} {w : va_W} {a : Nat} {e : va_E} (h : va_D A w) (ha : A a) (hn : ¬ aOf w a) : va_D A ((a, e) :: w) := by
  refine ⟨fun i j p q hi hj he => ?_, fun k q hk => ?_⟩
  · cases i with
    | zero =>
      cases j with
      | zero => rfl
      | succ j => cases hi; exact absurd ⟨j, q.2, by rw [show ((a, e) : Nat × va_E).1 = a from rfl] at he; rw [he]; exact hj⟩ hn
    | succ i =>
      cases j with
      | zero => cases hj; exact absurd ⟨i, p.2, by rw [show ((a, e) : Nat × va_E).1 = a from rfl] at he; rw [← he]; exact hi⟩ hn
      | succ j => rw [h.1 i j p q hi hj he]
  · cases k with
    | zero => cases hk; exact ha
    | succ k => exact h.2 k q hk
theorem hP_blind {D : va_G} {ad : Nat → Nat} {cA : Nat → ClassId} {P : PM} {M : MM} {xs : List Int32} {oa : Nat} {cO : ClassId} {f : Nat → Int64} {sz : Nat} : FrameBlind (HP D ad cA P M xs oa cO f sz) := by
  rintro a U g mk ⟨h1, h2, ⟨w1, w2, ⟨tys, w3, w4⟩, w5, w6, w7, w8⟩, ⟨h4, h5⟩, h6, h7, ⟨c1, c2, c3⟩, h9⟩
  refine ⟨h1, h2, ⟨w1, w2, ⟨tys, va_K.moved (u := U) (U := U.calling g mk a) (Vm.Alike.refl U.vm) w3, w4⟩, w5, w6, w7, fun q => ?_⟩, ⟨h4, va_K.moved (u := U) (U := U.calling g mk a) (Vm.Alike.refl U.vm) h5⟩, NX_same (s := U) (U := U.calling g mk a) rfl h6, ⟨va_AO.moved (u := U) (U := U.calling g mk a) (Vm.Alike.refl U.vm) h7.1, va_AO.moved (u := U) (U := U.calling g mk a) (Vm.Alike.refl U.vm) h7.2⟩, ⟨CD_same (s := U) (U := U.calling g mk a) rfl c1, vx_Zq.moved (u := U) (U := U.calling g mk a) (Vm.Alike.refl U.vm) c2, vx_Zq.moved (u := U) (U := U.calling g mk a) (Vm.Alike.refl U.vm) c3⟩, h9⟩
  obtain ⟨a1, f, a2, a3⟩ := w8 q
  exact ⟨va_Z.moved (u := U) (U := U.calling g mk a) (Vm.Alike.refl U.vm) a1, f, va_T.moved (u := U) (U := U.calling g mk a) (Vm.Alike.refl U.vm) a2, a3⟩
/-- the end of a helper: what it owes -/
theorem h_end {D : va_G} {s : State} {args : Array Value} {ad ad' : Nat → Nat} {cA cA' : Nat → ClassId} {P P' : PM} {M M' : MM} {oa : Nat} {cO : ClassId} {f' : Nat → Int64} {rr : Int32} {xo : Int64} {H1 : Heap} {locs : List Loc} (hag : ∀ o, o < LC.length → ad' o = ad o) (hW : WdA (AH (wsOf ad cA (kz LC) P M) oa s.heap.size) D s H1 ad' cA' LC P' M') (ho : va_P D cls [(oa, oE cO f')] H1) (hx : f' 0 = xo) (hn : ∀ q, aOf (wsOf ad' cA' (kz LC) P' M') q → aOf (wsOf ad cA (kz LC) P M) q ∨ s.heap.size ≤ q) (hoa : ¬ aOf (wsOf ad cA (kz LC) P M) oa ∧ oa < s.heap.size) (hS : va_S (AH (wsOf ad cA (kz LC) P M) oa s.heap.size) s.heap H1 locs) : ∀ t : State, t.heap = H1 → s.WarmedH t.vm → HQ D ad cA P M oa cO s.heap.size rr P' M' xo args s (.returned (some (.int rr))) t := by
  intro t ht hWt
  obtain ⟨w1, w2, ⟨tys, w3, w4⟩, w5, w6, w7, w8⟩ := hW
  refine ⟨rfl, ad', cA', f', ⟨hag, by rw [ht]; exact w1, w2, ⟨tys, va_K.moved hWt.alike w3, w4⟩, w5, w6, w7, w8, hS.F ht⟩, by rw [ht]; exact ho, hx, fun q => ?_, hn⟩
  rcases hn oa q with w | w
  · exact hoa.1 w
  · exact absurd w (Nat.not_le.mpr hoa.2)
section
variable {l : Launch} {N : MethodName} {cc : ByteArray} {y idx d sz oa : Nat} {D : va_G} {ad : Nat → Nat} {cA : Nat → ClassId} {P P' : PM} {M M' : MM} {x1 x2 : Int32} {cO : ClassId} {f : Nat → Int64}
theorem h_ret2 {x : Int} (hN : N.cls = R_lw) (hdec : hd2 cc idx = true) (hy : y < 271 ∧ (mpl y).2.1 ≠ 1 ∧ (mN y).name ≠ "<init>" ∧ mow y = 10) (hnar : nar y = 2) (hwk : Cond.methodLink R_lw idx (mN y) ∈ GW) (hE : Ev d y [pR 1, iV x1, iV x2] (kz LC) P M (some (pI x)) (kz LC) P' M') : Met l N (wsH N cc 5 [(0, 10, 13, 13)]) (rmD (d + 3) 1 6) (HP D ad cA P M [x1, x2] oa cO f sz) (HQ D ad cA P M oa cO sz 0 P' M' (Int32.ofInt x).toInt64) 1 6 (AH (wsOf ad cA (kz LC) P M) oa sz) := by
  unfold hd2 at hdec
  simp only [Bool.and_eq_true, decide_eq_true_eq] at hdec
  obtain ⟨d0, d1, d2, d3, d4, d5, d8, d9, d10, d13, d15, d16, d17, d18⟩ := hdec
  refine va_MetW (cc := cc) (maxL := 5) (ret := some .int) (hh := [(0, 10, 13, 13)]) (by rw [hN]; decide +kernel) rfl ?_
  intro p e s m args below meth c s₁ B hml hv
  obtain ⟨rfl, hsz, hW, ⟨ho1, ho2⟩, hnx, hao, hth, hoa⟩ := hv
  have hx := B.exec
  have hb := B.bytes
  have hr := B.returns
  have hlocks := B.notSynchronized
  have hts0 := atoms_spec (ws := wsH N cc 5 [(0, 10, 13, 13)]) B.pre
  have hts : ∀ w ∈ GW, w.before (Value.ref (ad 1) :: ([x1, x2].map Value.int ++ [.ref oa])).toArray s = true := fun w hw => hts0 w (List.mem_cons_of_mem _ hw)
  have hown : s.vm.findClass R_lw = some m.cls := by rw [← hN]; exact findClass_of_methodNamed B.named
  subst hsz
  have G : Hx p s m c (Value.ref (ad 1) :: ([x1, x2].map Value.int ++ [.ref oa])).toArray cc 5 (AH (wsOf ad cA (kz LC) P M) oa s.heap.size) := ⟨hx, hb, hml, hown, hts, hnx, hao, fun q h => Or.inr (Or.inr h), hth⟩
  have hl9 := lv_entry (Value.ref (ad 1) :: ([x1, x2].map Value.int ++ [.ref oa])) (n := 5) (Nat.le_of_ble_eq_true rfl)
  rw [lg_entry_eq]
  generalize (lg_sl (Value.ref (ad 1) :: ([x1, x2].map Value.int ++ [.ref oa])) ++ List.replicate (5 - (lg_sl (Value.ref (ad 1) :: ([x1, x2].map Value.int ++ [.ref oa]))).length) Slot.unset).toArray = ls0 at hl9 ⊢
  have hl : lv_has ls0 5 [(0, .ref (ad 1)), (1, .int x1), (2, .int x2), (3, .ref oa)] := hl9
  refine lv_aload_n hx hb d0 rfl (lv_at hl 3 rfl) ?_
  refine lv_iconst (v := 0) hx hb d1 rfl ?_
  refine lv_aload_n hx hb d2 rfl (lv_at hl 0 rfl) ?_
  refine lv_iload_n hx hb d3 rfl (lv_at hl 1 rfl) ?_
  refine lv_iload_n hx hb d4 rfl (lv_at hl 2 rfl) ?_
  have key := hw_ret (l := l) (e := e) (below := below) (meth := meth) (R := rmD (d + 3) 1 6) (cells := 0) (slots := 0) (QQ := MQ below (HQ D ad cA P M oa cO s.heap.size 0 P' M' (Int32.ofInt x).toInt64) (Value.ref (ad 1) :: ([x1, x2].map Value.int ++ [.ref oa])).toArray s 1 6 (AH (wsOf ad cA (kz LC) P M) oa s.heap.size)) (as := [iV x1, iV x2]) (rest := [.int 0, .ref oa]) (o := 1) G ⟨hy.1, hy.2.1, hy.2.2.1, by rw [hy.2.2.2]; decide⟩ hwk d5 hnar.symm (by rw [hy.2.2.2]; rfl) (Nat.le_of_ble_eq_true rfl) hE ⟨by show d + 2 ≤ d + 3 + 1; omega, by show 99 + 60 * d ≤ 60 + 60 * (d + 3); omega⟩ ⟨Nat.zero_le _, Nat.zero_le _⟩ hW va_S.rf (fun v hv => by
    rcases List.mem_cons.mp hv with rfl | hv
    · exact iV_ok x1
    · rcases List.mem_cons.mp hv with rfl | hv
      · exact iV_ok x2
      · cases hv) hl.1 (fun ad' cA' H' locs' h1 h2 h3 h4 h5 h6 => ?_)
  · rw [show ([iV x1, iV x2].map (val ad)) = [Value.int x1, .int x2] by rw [List.map_cons, List.map_cons, iV_val, iV_val]; rfl] at key
    exact key
  show W p l e _ s m _ below meth c H' locs' 0 0 _ (F0 m (5 + 3) ls0 [.int (Int32.ofInt x), .int 0, .ref oa])
  have hko : va_P D cls [(oa, oE cO f)] H' := ho1.kept (fun k q hq => by
    cases k with
    | zero => cases hq; exact h4 oa hoa.2 hoa.1
    | succ k => cases hq)
  have hno : ¬ aOf (wsOf ad' cA' (kz LC) P' M') oa := fun w => by
    rcases h5 oa w with w | w
    · exact hoa.1 w
    · exact absurd w (Nat.not_le.mpr hoa.2)
  refine lv_i2l hx hb d8 rfl ?_
  refine va_last (i := 0) (ws := (oa, oE cO f) :: wsOf ad' cA' (kz LC) P' M') hx hb ho2 (P_cons hko h2.1) (D_cons h2.2.1 (Or.inr (Or.inl rfl)) hno) h6 0 0 rfl rfl (vp_in_iff.mpr (by decide)) d9 (fun H1 locs1 g1 g2 g3 => ?_)
  refine lv_goto (tgt := 17) hx hb d10 rfl ?_
  refine lv_iconst (v := 0) hx hb d17 rfl ?_
  refine W.widen (k := 1) (n := 6) (Nat.zero_le _) (Nat.zero_le _) ?_
  exact W.iret hx hb hr (h_end (f' := vp_updL f (0 : Int32).toNatClampNeg (Int32.ofInt x).toInt64) h1 ⟨P_tl g1, h2.2⟩ (P_hd g1) rfl h5 hoa g3) g3.2.2 d18
theorem h_thr2 {pcx : Nat} (hl9 : l.stackTraces = false) (hd5 : 5 ≤ d) (htd : thrD y pcx = true) (hN : N.cls = R_lw) (hdec : hd2 cc idx = true) (hcl : Cond.classLink R_lw 13 nse ∈ GW) (hy : y < 271 ∧ (mpl y).2.1 ≠ 1 ∧ (mN y).name ≠ "<init>" ∧ mow y = 10) (hnar : nar y = 2) (hwk : Cond.methodLink R_lw idx (mN y) ∈ GW) (hE : EvY d y pcx [pR 1, iV x1, iV x2] (kz LC) P M) : Met l N (wsH N cc 5 [(0, 10, 13, 13)]) (rmD (d + 3) 1 6) (HP D ad cA P M [x1, x2] oa cO f sz) (HQ D ad cA P M oa cO sz 1 P M (f 0)) 1 6 (AH (wsOf ad cA (kz LC) P M) oa sz) := by
  unfold hd2 at hdec
  simp only [Bool.and_eq_true, decide_eq_true_eq] at hdec
  obtain ⟨d0, d1, d2, d3, d4, d5, d8, d9, d10, d13, d15, d16, d17, d18⟩ := hdec
  refine va_MetW (cc := cc) (maxL := 5) (ret := some .int) (hh := [(0, 10, 13, 13)]) (by rw [hN]; decide +kernel) rfl ?_
  intro p e s m args below meth c s₁ B hml hv
  obtain ⟨rfl, hsz, hW, ⟨ho1, ho2⟩, hnx, hao, hth, hoa⟩ := hv
  have hx := B.exec
  have hb := B.bytes
  have hr := B.returns
  have hlocks := B.notSynchronized
  have hts0 := atoms_spec (ws := wsH N cc 5 [(0, 10, 13, 13)]) B.pre
  have htab := vx_table (x := N) B (hts0 _ List.mem_cons_self)
  have hts : ∀ w ∈ GW, w.before (Value.ref (ad 1) :: ([x1, x2].map Value.int ++ [.ref oa])).toArray s = true := fun w hw => hts0 w (List.mem_cons_of_mem _ hw)
  have hown : s.vm.findClass R_lw = some m.cls := by rw [← hN]; exact findClass_of_methodNamed B.named
  have hall := thr_all hts hth.1
  subst hsz
  have G : Hx p s m c (Value.ref (ad 1) :: ([x1, x2].map Value.int ++ [.ref oa])).toArray cc 5 (AH (wsOf ad cA (kz LC) P M) oa s.heap.size) := ⟨hx, hb, hml, hown, hts, hnx, hao, fun q h => Or.inr (Or.inr h), hth⟩
  have hl9' := lv_entry (Value.ref (ad 1) :: ([x1, x2].map Value.int ++ [.ref oa])) (n := 5) (Nat.le_of_ble_eq_true rfl)
  rw [lg_entry_eq]
  generalize (lg_sl (Value.ref (ad 1) :: ([x1, x2].map Value.int ++ [.ref oa])) ++ List.replicate (5 - (lg_sl (Value.ref (ad 1) :: ([x1, x2].map Value.int ++ [.ref oa]))).length) Slot.unset).toArray = ls0 at hl9' ⊢
  have hl : lv_has ls0 5 [(0, .ref (ad 1)), (1, .int x1), (2, .int x2), (3, .ref oa)] := hl9'
  refine lv_aload_n hx hb d0 rfl (lv_at hl 3 rfl) ?_
  refine lv_iconst (v := 0) hx hb d1 rfl ?_
  refine lv_aload_n hx hb d2 rfl (lv_at hl 0 rfl) ?_
  refine lv_iload_n hx hb d3 rfl (lv_at hl 1 rfl) ?_
  refine lv_iload_n hx hb d4 rfl (lv_at hl 2 rfl) ?_
  have key := hw_thr (l := l) (e := e) (below := below) (meth := meth) (R := rmD (d + 3) 1 6) (cells := 0) (slots := 0) (QQ := MQ below (HQ D ad cA P M oa cO s.heap.size 1 P M (f 0)) (Value.ref (ad 1) :: ([x1, x2].map Value.int ++ [.ref oa])).toArray s 1 6 (AH (wsOf ad cA (kz LC) P M) oa s.heap.size)) (as := [iV x1, iV x2]) (rest := [.int 0, .ref oa]) (o := 1) hl9 hd5 htd G hy hwk d5 hnar.symm (by rw [hy.2.2.2]; rfl) (Nat.le_of_ble_eq_true rfl) hE ⟨by show d + 3 ≤ d + 3 + 1; omega, by show 159 + 60 * d ≤ 60 + 60 * (d + 3); omega⟩ ⟨Nat.le_refl _, Nat.le_refl _⟩ hW va_S.rf (fun v hv => by
    rcases List.mem_cons.mp hv with rfl | hv
    · exact iV_ok x1
    · rcases List.mem_cons.mp hv with rfl | hv
      · exact iV_ok x2
      · cases hv) hl.1 (fun ad' cA' H' locs' q9 ce h1 h2 h3 h4 h5 h6 hce hcv hcl9 => ?_)
  · rw [show ([iV x1, iV x2].map (val ad)) = [Value.int x1, .int x2] by rw [List.map_cons, List.map_cons, iV_val, iV_val]; rfl] at key
    exact key
  have hko : va_P D cls [(oa, oE cO f)] H' := ho1.kept (fun k q hq => by
    cases k with
    | zero => cases hq; exact h4 oa hoa.2 hoa.1
    | succ k => cases hq)
  have hcast : (Cond.castable nse nse).before (Value.ref (ad 1) :: ([x1, x2].map Value.int ++ [.ref oa])).toArray s = true := hall _ thr_cast
  refine vx_catch1 (own := R_lw) (name := nse) hown ⟨0, 10, 13, 13⟩ htab rfl (by decide) (hts _ hcl) hcast hce hcv hcl9 ?_
  refine lv_astore (i := 4) hx hb d13 hl (by decide) rfl (fun ls' hl' => ?_)
  refine lv_iconst (v := 1) hx hb d15 rfl ?_
  exact W.iret hx hb hr (h_end (f' := f) h1 h2 hko rfl h5 hoa h6) h6.2.2 d16
end
