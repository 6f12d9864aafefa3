/-! the third helper: row -/
def hd1 (cc : ByteArray) (idx : Nat) : Bool := decide (decode cc 0 = .ok (.aload_n 2, 1)) && (decide (decode cc 1 = .ok (.iconst 0, 1)) && (decide (decode cc 2 = .ok (.aload_n 0, 1)) && (decide (decode cc 3 = .ok (.iload_n 1, 1)) && (decide (decode cc 4 = .ok (.invokevirtual idx, 3)) && (decide (decode cc 7 = .ok (.lastore, 1)) && (decide (decode cc 8 = .ok (.goto 6, 3)) && (decide (decode cc 11 = .ok (.astore_n 3, 1)) && (decide (decode cc 12 = .ok (.iconst 1, 1)) && (decide (decode cc 13 = .ok (.ireturn, 1)) && (decide (decode cc 14 = .ok (.iconst 0, 1)) && decide (decode cc 15 = .ok (.ireturn, 1))))))))))))
section
variable {l : Launch} {N : MethodName} {cc : ByteArray} {y idx d sz oa : Nat} {D : va_G} {ad : Nat → Nat} {cA : Nat → ClassId} {P P' : PM} {M M' : MM} {x1 : Int32} {cO : ClassId} {f : Nat → Int64}
theorem h_ret1 {x : Int} (hN : N.cls = R_lw) (hdec : hd1 cc idx = true) (hy : y < 271 ∧ (mpl y).2.1 ≠ 1 ∧ (mN y).name ≠ "<init>" ∧ mow y = 10) (hnar : nar y = 1) (hwk : Cond.methodLink R_lw idx (mN y) ∈ GW) (hE : Ev d y [pR 1, iV x1] (kz LC) P M (some (pL x)) (kz LC) P' M') : Met l N (wsH N cc 4 [(0, 8, 11, 13)]) (rmD (d + 3) 1 6) (HP D ad cA P M [x1] oa cO f sz) (HQ D ad cA P M oa cO sz 0 P' M' (Int64.ofInt x)) 1 6 (AH (wsOf ad cA (kz LC) P M) oa sz) := by
  unfold hd1 at hdec
  simp only [Bool.and_eq_true, decide_eq_true_eq] at hdec
  obtain ⟨d0, d1, d2, d3, d5, d9, d10, d13, d15, d16, d17, d18⟩ := hdec
  refine va_MetW (cc := cc) (maxL := 4) (ret := some .int) (hh := [(0, 8, 11, 13)]) (by rw [hN]; decide +kernel) rfl ?_
  intro p e s m args below meth c s₁ B hml hv
  obtain ⟨rfl, hsz, hW, ⟨ho1, ho2⟩, hnx, hao, hth, hoa⟩ := hv
  have hx := B.exec
  have hb := B.bytes
  have hr := B.returns
  have hlocks := B.notSynchronized
  have hts0 := atoms_spec (ws := wsH N cc 4 [(0, 8, 11, 13)]) B.pre
  have hts : ∀ w ∈ GW, w.before (Value.ref (ad 1) :: ([x1].map Value.int ++ [.ref oa])).toArray s = true := fun w hw => hts0 w (List.mem_cons_of_mem _ hw)
  have hown : s.vm.findClass R_lw = some m.cls := by rw [← hN]; exact findClass_of_methodNamed B.named
  subst hsz
  have G : Hx p s m c (Value.ref (ad 1) :: ([x1].map Value.int ++ [.ref oa])).toArray cc 4 (AH (wsOf ad cA (kz LC) P M) oa s.heap.size) := ⟨hx, hb, hml, hown, hts, hnx, hao, fun q h => Or.inr (Or.inr h), hth⟩
  have hl9 := lv_entry (Value.ref (ad 1) :: ([x1].map Value.int ++ [.ref oa])) (n := 4) (Nat.le_of_ble_eq_true rfl)
  rw [lg_entry_eq]
  generalize (lg_sl (Value.ref (ad 1) :: ([x1].map Value.int ++ [.ref oa])) ++ List.replicate (4 - (lg_sl (Value.ref (ad 1) :: ([x1].map Value.int ++ [.ref oa]))).length) Slot.unset).toArray = ls0 at hl9 ⊢
  have hl : lv_has ls0 4 [(0, .ref (ad 1)), (1, .int x1), (2, .ref oa)] := hl9
  refine lv_aload_n hx hb d0 rfl (lv_at hl 2 rfl) ?_
  refine lv_iconst (v := 0) hx hb d1 rfl ?_
  refine lv_aload_n hx hb d2 rfl (lv_at hl 0 rfl) ?_
  refine lv_iload_n hx hb d3 rfl (lv_at hl 1 rfl) ?_
  have key := hw_ret (l := l) (e := e) (below := below) (meth := meth) (R := rmD (d + 3) 1 6) (cells := 0) (slots := 0) (QQ := MQ below (HQ D ad cA P M oa cO s.heap.size 0 P' M' (Int64.ofInt x)) (Value.ref (ad 1) :: ([x1].map Value.int ++ [.ref oa])).toArray s 1 6 (AH (wsOf ad cA (kz LC) P M) oa s.heap.size)) (as := [iV x1]) (rest := [.int 0, .ref oa]) (o := 1) G ⟨hy.1, hy.2.1, hy.2.2.1, by rw [hy.2.2.2]; decide⟩ hwk d5 hnar.symm (by rw [hy.2.2.2]; rfl) (Nat.le_of_ble_eq_true rfl) hE ⟨by show d + 2 ≤ d + 3 + 1; omega, by show 99 + 60 * d ≤ 60 + 60 * (d + 3); omega⟩ ⟨Nat.zero_le _, Nat.zero_le _⟩ hW va_S.rf (fun v hv => by
    rcases List.mem_cons.mp hv with rfl | hv
    · exact iV_ok x1
    · cases hv) hl.1 (fun ad' cA' H' locs' h1 h2 h3 h4 h5 h6 => ?_)
  · rw [show ([iV x1].map (val ad)) = [Value.int x1] by rw [List.map_cons, iV_val]; rfl] at key
    exact key
  show W p l e _ s m _ below meth c H' locs' 0 0 _ (F0 m (4 + 3) ls0 [.long (Int64.ofInt x), .int 0, .ref oa])
  have hko : va_P D cls [(oa, oE cO f)] H' := ho1.kept (fun k q hq => by
    cases k with
    | zero => cases hq; exact h4 oa hoa.2 hoa.1
    | succ k => cases hq)
  have hno : ¬ aOf (wsOf ad' cA' (kz LC) P' M') oa := fun w => by
    rcases h5 oa w with w | w
    · exact hoa.1 w
    · exact absurd w (Nat.not_le.mpr hoa.2)
  refine va_last (i := 0) (ws := (oa, oE cO f) :: wsOf ad' cA' (kz LC) P' M') hx hb ho2 (P_cons hko h2.1) (D_cons h2.2.1 (Or.inr (Or.inl rfl)) hno) h6 0 0 rfl rfl (vp_in_iff.mpr (by decide)) d9 (fun H1 locs1 g1 g2 g3 => ?_)
  refine lv_goto (tgt := 14) hx hb d10 rfl ?_
  refine lv_iconst (v := 0) hx hb d17 rfl ?_
  refine W.widen (k := 1) (n := 6) (Nat.zero_le _) (Nat.zero_le _) ?_
  exact W.iret hx hb hr (h_end (f' := vp_updL f (0 : Int32).toNatClampNeg (Int64.ofInt x)) h1 ⟨P_tl g1, h2.2⟩ (P_hd g1) rfl h5 hoa g3) g3.2.2 d18
theorem h_thr1 {pcx : Nat} (hl9 : l.stackTraces = false) (hd5 : 5 ≤ d) (htd : thrD y pcx = true) (hN : N.cls = R_lw) (hdec : hd1 cc idx = true) (hcl : Cond.classLink R_lw 13 nse ∈ GW) (hy : y < 271 ∧ (mpl y).2.1 ≠ 1 ∧ (mN y).name ≠ "<init>" ∧ mow y = 10) (hnar : nar y = 1) (hwk : Cond.methodLink R_lw idx (mN y) ∈ GW) (hE : EvY d y pcx [pR 1, iV x1] (kz LC) P M) : Met l N (wsH N cc 4 [(0, 8, 11, 13)]) (rmD (d + 3) 1 6) (HP D ad cA P M [x1] oa cO f sz) (HQ D ad cA P M oa cO sz 1 P M (f 0)) 1 6 (AH (wsOf ad cA (kz LC) P M) oa sz) := by
  unfold hd1 at hdec
  simp only [Bool.and_eq_true, decide_eq_true_eq] at hdec
  obtain ⟨d0, d1, d2, d3, d5, d9, d10, d13, d15, d16, d17, d18⟩ := hdec
  refine va_MetW (cc := cc) (maxL := 4) (ret := some .int) (hh := [(0, 8, 11, 13)]) (by rw [hN]; decide +kernel) rfl ?_
  intro p e s m args below meth c s₁ B hml hv
  obtain ⟨rfl, hsz, hW, ⟨ho1, ho2⟩, hnx, hao, hth, hoa⟩ := hv
  have hx := B.exec
  have hb := B.bytes
  have hr := B.returns
  have hlocks := B.notSynchronized
  have hts0 := atoms_spec (ws := wsH N cc 4 [(0, 8, 11, 13)]) B.pre
  have htab := vx_table (x := N) B (hts0 _ List.mem_cons_self)
  have hts : ∀ w ∈ GW, w.before (Value.ref (ad 1) :: ([x1].map Value.int ++ [.ref oa])).toArray s = true := fun w hw => hts0 w (List.mem_cons_of_mem _ hw)
  have hown : s.vm.findClass R_lw = some m.cls := by rw [← hN]; exact findClass_of_methodNamed B.named
  have hall := thr_all hts hth.1
  subst hsz
  have G : Hx p s m c (Value.ref (ad 1) :: ([x1].map Value.int ++ [.ref oa])).toArray cc 4 (AH (wsOf ad cA (kz LC) P M) oa s.heap.size) := ⟨hx, hb, hml, hown, hts, hnx, hao, fun q h => Or.inr (Or.inr h), hth⟩
  have hl9' := lv_entry (Value.ref (ad 1) :: ([x1].map Value.int ++ [.ref oa])) (n := 4) (Nat.le_of_ble_eq_true rfl)
  rw [lg_entry_eq]
  generalize (lg_sl (Value.ref (ad 1) :: ([x1].map Value.int ++ [.ref oa])) ++ List.replicate (4 - (lg_sl (Value.ref (ad 1) :: ([x1].map Value.int ++ [.ref oa]))).length) Slot.unset).toArray = ls0 at hl9' ⊢
  have hl : lv_has ls0 4 [(0, .ref (ad 1)), (1, .int x1), (2, .ref oa)] := hl9'
  refine lv_aload_n hx hb d0 rfl (lv_at hl 2 rfl) ?_
  refine lv_iconst (v := 0) hx hb d1 rfl ?_
  refine lv_aload_n hx hb d2 rfl (lv_at hl 0 rfl) ?_
  refine lv_iload_n hx hb d3 rfl (lv_at hl 1 rfl) ?_
  have key := hw_thr (l := l) (e := e) (below := below) (meth := meth) (R := rmD (d + 3) 1 6) (cells := 0) (slots := 0) (QQ := MQ below (HQ D ad cA P M oa cO s.heap.size 1 P M (f 0)) (Value.ref (ad 1) :: ([x1].map Value.int ++ [.ref oa])).toArray s 1 6 (AH (wsOf ad cA (kz LC) P M) oa s.heap.size)) (as := [iV x1]) (rest := [.int 0, .ref oa]) (o := 1) hl9 hd5 htd G hy hwk d5 hnar.symm (by rw [hy.2.2.2]; rfl) (Nat.le_of_ble_eq_true rfl) hE ⟨by show d + 3 ≤ d + 3 + 1; omega, by show 159 + 60 * d ≤ 60 + 60 * (d + 3); omega⟩ ⟨Nat.le_refl _, Nat.le_refl _⟩ hW va_S.rf (fun v hv => by
    rcases List.mem_cons.mp hv with rfl | hv
    · exact iV_ok x1
    · cases hv) hl.1 (fun ad' cA' H' locs' q9 ce h1 h2 h3 h4 h5 h6 hce hcv hcl9 => ?_)
  · rw [show ([iV x1].map (val ad)) = [Value.int x1] by rw [List.map_cons, iV_val]; rfl] at key
    exact key
  have hko : va_P D cls [(oa, oE cO f)] H' := ho1.kept (fun k q hq => by
    cases k with
    | zero => cases hq; exact h4 oa hoa.2 hoa.1
    | succ k => cases hq)
  have hcast : (Cond.castable nse nse).before (Value.ref (ad 1) :: ([x1].map Value.int ++ [.ref oa])).toArray s = true := hall _ thr_cast
  refine vx_catch1 (own := R_lw) (name := nse) hown ⟨0, 8, 11, 13⟩ htab rfl (by decide) (hts _ hcl) hcast hce hcv hcl9 ?_
  refine lv_astore_n (i := 3) hx hb d13 rfl hl (by decide) rfl (fun ls' hl' => ?_)
  refine lv_iconst (v := 1) hx hb d15 rfl ?_
  exact W.iret hx hb hr (h_end (f' := f) h1 h2 hko rfl h5 hoa h6) h6.2.2 d16
end
