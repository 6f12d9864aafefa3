/-! the law: its own helpers called, both worlds kept -/
abbrev nField : MethodName := ⟨R_lw, "field", "(LBuriedWithIt;II[J)I"⟩
abbrev nGoer : MethodName := ⟨R_lw, "goer", "(LBuriedWithIt;II[J)I"⟩
abbrev nRow : MethodName := ⟨R_lw, "row", "(LBuriedWithIt;I[J)I"⟩
theorem GW_all : GoodIn GW GW := fun w hw => ⟨hw, GW_good w hw⟩
/-- a helper of the law, called by this entry of its pool: its words -/
def hlk (Nm : MethodName) (cc : ByteArray) (nl : Nat) (hh : List (Nat × Nat × Nat × Nat)) (idx n : Nat) : Prop := GoodIn GW (va_wsS R_lw idx Nm (wsH Nm cc nl hh)) ∧ Nm.cls ≠ "java/lang/invoke/MethodHandle" ∧ Nm.cls ≠ "java/lang/invoke/VarHandle" ∧ (parseMethodDescriptor Nm.desc).map (fun d => d.parameters.length) = some n
theorem hlk_of {Nm : MethodName} {cc : ByteArray} {nl : Nat} {hh : List (Nat × Nat × Nat × Nat)} {idx n : Nat} (h1 : Cond.methodLink R_lw idx Nm ∈ GW) (h2 : Cond.static Nm ∈ GW) (h3 : Cond.initialized Nm.cls ∈ GW) (h4 : Cond.codeWith Nm cc nl (some .int) hh ∈ GW) (h5 : Nm.cls ≠ "java/lang/invoke/MethodHandle" ∧ Nm.cls ≠ "java/lang/invoke/VarHandle" ∧ (parseMethodDescriptor Nm.desc).map (fun d => d.parameters.length) = some n) : hlk Nm cc nl hh idx n :=
  ⟨gi_cons h1 (gi_cons h2 (gi_cons h3 (gi_cons h4 GW_all))), h5⟩
set_option maxRecDepth 100000 in
theorem hk_field : hlk nField method_3_code 5 [(0, 10, 13, 13)] 49 4 := hlk_of (in_GW (i := 1138) (by decide +kernel) rfl) (in_GW (i := 1139) (by decide +kernel) rfl) (in_GW (i := 136) (by decide +kernel) rfl) (in_GW (i := 1140) (by decide +kernel) rfl) (by decide +kernel)
set_option maxRecDepth 100000 in
theorem hk_goer : hlk nGoer method_4_code 5 [(0, 10, 13, 13)] 58 4 := hlk_of (in_GW (i := 1207) (by decide +kernel) rfl) (in_GW (i := 1208) (by decide +kernel) rfl) (in_GW (i := 136) (by decide +kernel) rfl) (in_GW (i := 1209) (by decide +kernel) rfl) (by decide +kernel)
set_option maxRecDepth 100000 in
theorem hk_row : hlk nRow method_5_code 4 [(0, 8, 11, 13)] 215 3 := hlk_of (in_GW (i := 1214) (by decide +kernel) rfl) (in_GW (i := 1215) (by decide +kernel) rfl) (in_GW (i := 136) (by decide +kernel) rfl) (in_GW (i := 1216) (by decide +kernel) rfl) (by decide +kernel)
set_option maxRecDepth 100000 in
theorem hk_cl : Cond.classLink R_lw 13 nse ∈ GW := in_GW (i := 1141) (by decide +kernel) rfl
section
variable {p : Program} {l : Launch} {e : Env} {s : State} {m : MethodId} {args : Array Value} {below : List Frame} {meth : Method} {c : Code} {D : va_G} {QQ : State → Prop} {pc d idx q1 q2 oa : Nat} {P P' Q : PM} {M M' N : MM} {H : Heap} {locs : List Loc} {cells slots : Nat} {ls : Array Slot} {xs : List Int32} {xo : Int64}
theorem lw_help {Nm : MethodName} {cc : ByteArray} {nl n : Nat} {hh : List (Nat × Nat × Nat × Nat)} {rr : Int32} {xo' : Int64} (G : Lx p s m c args) (hTh : Th (AS s) s) (hB : Both D s H q1 q2 oa P M Q N xo) (hk : hlk Nm cc nl hh idx n) (hnl : nl ≤ 8) (hd : decode code pc = .ok (.invokestatic idx, 3)) (has : xs.length + 2 = n) (hd9 : d ≤ 1000) (hcs : cells + 1 ≤ 601024 ∧ slots + 6 ≤ 7293034) (hS : va_S (AS s) s.heap H locs) (hl : ls.size = 8)
    (hM : ∀ (ad : Nat → Nat) (cA : Nat → ClassId) (cO : ClassId) (f : Nat → Int64), f 0 = xo → Met l Nm (wsH Nm cc nl hh) (rmD (d + 3) 1 6) (HP D ad cA P M xs oa cO f H.size) (HQ D ad cA P M oa cO H.size rr P' M' xo') 1 6 (AH (wsOf ad cA (kz LC) P M) oa H.size))
    (h : ∀ (H' : Heap) (locs' : List Loc), Both D s H' q1 q2 oa P' M' Q N xo' → va_S (AS s) s.heap H' locs' → W p l e room_1 s m args below meth c H' locs' (cells + 1) (slots + 6) QQ (F0 m (pc + 3) ls [.int rr])) : W p l e room_1 s m args below meth c H locs cells slots QQ (F0 m pc ls (.ref oa :: ((xs.map Value.int).reverse ++ [.ref q1]))) := by
  obtain ⟨ad1, cA1, ad2, cA2, cO, f, w1, w2, ⟨rfl, rfl⟩, ⟨o1, o2, o3, o4⟩, d1, d2, d3⟩ := hB
  obtain ⟨hx, hb, hml, hown, hts, hnx, hao⟩ := id G
  obtain ⟨hk1, hk2⟩ := hk
  have hoa : oa < H.size := va_at_lt (o1 0 _ rfl)
  have hA1 : ∀ q, AH (wsOf ad1 cA1 (kz LC) P M) oa H.size q → AS s q := by
    rintro q (hq | hq | hq)
    · exact (Wd_lt w1 hq).2
    · subst hq; exact o2
    · exact Nat.le_trans hS.1 hq
  have hpre : ∀ U : State, U.heap = H → s.WarmedH U.vm → HP D ad1 cA1 P M xs oa cO f H.size (Value.ref (ad1 1) :: (xs.map Value.int ++ [.ref oa])).toArray U := by
    obtain ⟨hP, hD, ⟨tys, hK, hT⟩, hM0, hPo, hKo, hRo⟩ := w1
    intro U hU hW
    have hq : ∀ a : Nat, a < s.heap.size → ¬ AS s a → H[a]? = s.heap[a]? := fun a h1 h2 => hS.2.1 a h1 h2
    refine ⟨rfl, by rw [hU], ⟨by rw [hU]; exact hP, ⟨hD.1, fun k x hx => Or.inl ⟨k, x.2, hx⟩⟩, ⟨tys, va_K.moved hW.alike hK, hT⟩, hM0, hPo, hKo, fun q => ?_⟩, ⟨by rw [hU]; exact o1, va_K.moved hW.alike o3⟩, NX_warm hW hnx, ⟨va_AO.moved hW.alike hao.1, va_AO.moved hW.alike hao.2⟩, ⟨CD_warm hW hTh.1, ?_, ?_⟩, d2, hoa⟩
    · obtain ⟨a1, f9, a2, a3⟩ := hRo q
      refine ⟨?_, f9, ?_, a3⟩
      · rw [hU]; exact ((a1.moved hW.alike).kept hq).narrow hA1
      · rw [hU]; exact ((a2.moved hW.alike).kept hq).narrow hA1
    · rw [hU]; exact ((hTh.2.1.moved hW.alike).kept hq).narrow hA1
    · rw [hU]; exact ((hTh.2.2.moved hW.alike).kept hq).narrow hA1
  have hr := vx_runSW (e := e) (below := below) (meth := meth) (R := room_1) (locs := locs) (cells := cells) (slots := slots) (g := F0 m pc ls (.ref oa :: ((xs.map Value.int).reverse ++ [.ref (ad1 1)]))) (rest := []) (index := idx) (Ts := GW) (nL := 8) (n := n) (As := Value.ref (ad1 1) :: (xs.map Value.int ++ [.ref oa])) ⟨hx, hb, hml, hown, hts⟩ (hM ad1 cA1 cO f o4) (vx_cwSW n hts hk1 rfl rfl rfl hk2 ⟨by show d + 3 + 1 + 1 ≤ 2048; omega, by show 8 + (nl + 11) + (60 + 60 * (d + 3)) ≤ 84000; omega⟩) ⟨hP_blind, hpre⟩ rfl (by simp; omega) hl (by simp [F0]) (lv_room (Nat.le_of_ble_eq_true rfl)) hd hcs
  intro T hTT X9
  obtain ⟨v, st9, t, T2, Lc, h0, X2, hL, e1, e2, ⟨hoc, ad', cA', f', hpost, p1, p2, p3, p4⟩, stp⟩ := hr T hTT X9
  obtain ⟨n1, n2, n3, n4, n5⟩ := wd_next hA1 w1 hS h0 (by rw [← e2]; exact X2.warmed.alike) hpost
  rw [← e1] at n1 n2 n3 n5 p1
  cases hoc
  have hk2 : ∀ q, aOf (wsOf ad2 cA2 (kz LR) Q N) q → T2.heap[q]? = H[q]? := fun q hq => n3 q (Wd_lt w2 hq).1 (fun w => by
    rcases w with w | w | w
    · exact d1 q w hq
    · rw [w] at hq; exact d3 hq
    · have := (Wd_lt w2 hq).1; omega)
  obtain ⟨t3, g1, g2⟩ := h T2.heap (locs ++ Lc) ⟨ad', cA', ad2, cA2, cO, f', n1, Wd_kept w2 hk2, ⟨hpost.1 1 (by decide +kernel), rfl⟩, ⟨p1, o2, o3, p2⟩, fun q hq hq2 => (p4 q hq).elim (fun w => d1 q w hq2) (fun w => by have := (Wd_lt w2 hq2).1; omega), p3, d3⟩ (n5 Lc hL) T2 rfl X2
  exact ⟨t3, stp t3 g1, g2⟩
end
