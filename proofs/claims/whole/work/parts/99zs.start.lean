/-! the law's start: the two objects made -/
def adQ (a0 q : Nat) : Nat → Nat := fun o => if o = 0 then a0 else q
def fs0 (a0 ci : Nat) : List Value := (List.range (nfl ci)).map (fun j => fvl (fun _ => a0) (ftc ci j) 0 0)
/-- the static array of the class, as the statement gives it -/
def RoS (a0 : Nat) (s : State) : Prop := va_Z "BuriedWithIt$Rule" "PLAIN" "[C" (.ref a0) (AS s) s s.heap ∧ ∃ f : Nat → Value, va_T .char a0 13 f (AS s) s s.heap ∧ ∀ j, j < 13 → f j = .int (Int32.ofInt (plT j))
theorem plT_r (k : Nat) : r32 (plT k) := by
  unfold plT
  by_cases h : k < 13
  · have : k = 0 ∨ k = 1 ∨ k = 2 ∨ k = 3 ∨ k = 4 ∨ k = 5 ∨ k = 6 ∨ k = 7 ∨ k = 8 ∨ k = 9 ∨ k = 10 ∨ k = 11 ∨ k = 12 := by omega
    rcases this with rfl | rfl | rfl | rfl | rfl | rfl | rfl | rfl | rfl | rfl | rfl | rfl | rfl <;> (unfold r32; decide)
  · rw [List.getD_eq_getElem?_getD, List.getElem?_eq_none (by show 13 ≤ k; omega)]
    unfold r32; decide
theorem ws_one {a0 q ci : Nat} {cA : Nat → ClassId} : wsOf (adQ a0 q) cA (kz [(9, 13), (0, ci)]) P00 M00 = [(q, .inr (ci, fs0 a0 ci))] := by
  have e1 : wsOf (adQ a0 q) cA (kz [(9, 13), (0, ci)]) P00 M00 = [(q, cellOf (adQ a0 q) (cA 1) (0, ci) (fun _ => 0) (M00 1))] := rfl
  have e2 : M00 1 = fun _ => 0 := by funext k; rfl
  rw [e1, e2, cell_ext (ad := fun _ => a0) (fun j => rfl)]
  rfl
theorem Wd_one {D : va_G} {s : State} {H : Heap} {a0 q ci : Nat} (hci : ci < 12) (hP : va_P D cls [(q, .inr (ci, fs0 a0 ci))] H) (hq : s.heap.size ≤ q) (hK : va_K D cls [] s) (hR : RoS a0 s) : Wd D s H (adQ a0 q) (fun _ => 0) [(9, 13), (0, ci)] P00 M00 := by
  unfold Wd
  rw [ws_one]
  refine ⟨hP, ⟨fun i j x y hx hy _ => ?_, fun k x hx => ?_⟩, ⟨[], hK, fun o h1 h2 h3 => ?_⟩, fun o k ho => ?_, fun o k => by show 0 < 2; omega, ⟨⟨by show 1 ≤ 2; omega, rfl⟩, fun o h1 h2 => ?_⟩, fun _ => ⟨hR.1, ?_⟩⟩
  · have h1 : i < 1 := (List.getElem?_eq_some_iff.mp hx).1
    have h2 : j < 1 := (List.getElem?_eq_some_iff.mp hy).1
    omega
  · cases k with
    | zero => cases hx; exact hq
    | succ k => cases hx
  · have h4 : o < 2 := h2
    obtain rfl : o = 1 := by omega
    exact absurd h3 (Nat.not_succ_le_zero 0)
  · have h4 : o < 2 := ho
    rcases (show o = 0 ∨ o = 1 by omega) with rfl | rfl
    · show rngF 9 (plT k)
      unfold rngF
      rw [if_neg (by decide), if_neg (by decide), if_neg (by decide), if_neg (by decide)]
      exact plT_r k
    · exact rngF_0 _
  · have h4 : o < 2 := h2
    obtain rfl : o = 1 := by omega
    exact ⟨Nat.zero_le _, fun _ => hci, by show ci ≤ 100000; omega⟩
  · obtain ⟨f, h1, h2⟩ := hR.2
    exact ⟨f, h1, h2⟩
theorem P_left {D : va_G} {w1 w2 : va_W} {H : Heap} (h : va_P D cls (w1 ++ w2) H) : va_P D cls w1 H := fun k q hk => h k q (by rw [List.getElem?_append_left (List.getElem?_eq_some_iff.mp hk).1]; exact hk)
theorem P_right {D : va_G} {w1 w2 : va_W} {H : Heap} (h : va_P D cls (w1 ++ w2) H) : va_P D cls w2 H := fun k q hk => h (w1.length + k) q (by rw [List.getElem?_append_right (by omega), Nat.add_sub_cancel_left]; exact hk)
/-- the last cell is none of those before it -/
theorem D_last {A : Nat → Prop} {w : va_W} {a : Nat} {e : va_E} (h : va_D A (w ++ [(a, e)])) : ¬ aOf w a ∧ A a := by
  have hl : (w ++ [(a, e)])[w.length]? = some (a, e) := by simp
  refine ⟨fun ⟨k, e1, hk⟩ => ?_, h.2 _ _ hl⟩
  have hlt := (List.getElem?_eq_some_iff.mp hk).1
  have := h.1 k w.length (a, e1) (a, e) (by rw [List.getElem?_append_left hlt]; exact hk) hl rfl
  omega
section
variable {p : Program} {l : Launch} {e : Env} {s : State} {m : MethodId} {args : Array Value} {below : List Frame} {meth : Method} {c : Code} {D : va_G} {QQ : State → Prop} {pc d y idx ci a0 : Nat} {L L' : List (Nat × Nat)} {P P' : PM} {M M' : MM} {b : Nat × Nat} {ad : Nat → Nat} {cA : Nat → ClassId} {H : Heap} {locs : List Loc} {cells slots : Nat} {ls : Array Slot} {rest : List Value} {ws : va_W}
theorem l_new {nf : Nat} (hci : ci < 12) (hnf : nfl ci = nf) (hw : Cond.classLink R_lw idx (crow ci).1 ∈ GW) (G : Lx p s m c args) (hK : va_K D cls [] s) (hP : va_P D cls ws H) (hD : va_D (AS s) ws) (hS : va_S (AS s) s.heap H locs) (hd : decode code pc = .ok (.new idx, 3)) (hcs : cells + 1 ≤ 601024 ∧ slots + nf ≤ 7293034)
    (h : ∀ (q : Nat) (H1 : Heap), va_P D cls (ws ++ [(q, .inr (ci, fs0 a0 ci))]) H1 → va_D (AS s) (ws ++ [(q, .inr (ci, fs0 a0 ci))]) → va_S (AS s) s.heap H1 locs → W p l e room_1 s m args below meth c H1 locs (cells + 1) (slots + nf) QQ (F0 m (pc + 3) ls (.ref q :: rest))) : W p l e room_1 s m args below meth c H locs cells slots QQ (F0 m pc ls rest) := by
  subst hnf
  obtain ⟨hx, hb, hml, hown, hts, hnx, hao⟩ := id G
  obtain ⟨⟨j1, hj1⟩, ⟨j2, hj2⟩, hin, hty, hnm, hft4⟩ := cl_ok hci
  refine va_new (ci := ci) (fs := fs0 a0 ci) hx hb hts hin (fty ci) hty hown (hts _ hw) (hts _ (in_GW hj1 rfl)) (hts _ (in_GW hj2 rfl)) hK hP hD hS (fun _ h => h) (cls_at hci) ?_ hcs.1 hcs.2 hd h
  intro j hjn
  have e9 : vp_V (fs0 a0 ci) j = fvl (fun _ => a0) (ftc ci j) 0 0 := by
    simp [vp_V, hjn, fs0]
  rw [e9]
  unfold fvl
  rcases hft4 j hjn with ⟨z1, z2⟩ | ⟨z1, z2⟩ | ⟨z1, z2⟩ | ⟨z1, z2⟩
  · rw [z1, z2]; rfl
  · rw [z1, z2]; rfl
  · rw [z1, z2]; rfl
  · rw [z1]
    cases hf : fty ci j <;> rw [hf] at z2 <;> first | (cases z2; done) | rfl
theorem lw_init {o : Nat} (G : Lx p s m c args) (hy : y < 271) (hv1 : (mpl y).2.1 ≠ 1) (hv2 : (mN y).name = "<init>") (hv3 : rty y = none) (hwk : Cond.methodLink R_lw idx (mN y) ∈ GW) (hd : decode code pc = .ok (.invokespecial idx, 3)) (hnar : nar y = 0) (ho : o < L.length) (hs4 : (rest.map fun v => v.category).sum ≤ 8) (hE : Ev d y [pR o] (b, L) P M none (kz L') P' M') (hd9 : d ≤ 1000) (hcs : cells + b.1 ≤ 601024 ∧ slots + b.2 ≤ 7293034) (hW : Wd D s H ad cA L P M) (hS : va_S (AS s) s.heap H locs) (hl : ls.size = 8) (h : ∀ (ad' : Nat → Nat) (cA' : Nat → ClassId) (H' : Heap) (locs' : List Loc), (∀ o, o < L.length → ad' o = ad o) → Wd D s H' ad' cA' L' P' M' → H.size ≤ H'.size → (∀ q, q < H.size → ¬ aOf (wsOf ad cA (kz L) P M) q → H'[q]? = H[q]?) → (∀ q, aOf (wsOf ad' cA' (kz L') P' M') q → aOf (wsOf ad cA (kz L) P M) q ∨ H.size ≤ q) → va_S (AS s) s.heap H' locs' → W p l e room_1 s m args below meth c H' locs' (cells + b.1) (slots + b.2) QQ (F0 m (pc + 3) ls rest)) : W p l e room_1 s m args below meth c H locs cells slots QQ (F0 m pc ls (.ref (ad o) :: rest)) := by
  obtain ⟨f1, f2, f3, f4, f5, f6⟩ := m_facts hy
  obtain ⟨f51, f52⟩ := f5 hv1
  obtain ⟨hP, hD, ⟨tys, hK, hT⟩, hM, hPo, hKo, hRo⟩ := id hW
  obtain ⟨hx, hb, hml, hown, hts, hnx, hao⟩ := id G
  have hml9 := mxl_le hy
  have hrm : (rmD d b.1 b.2).frames + 1 ≤ room_1.frames ∧ 8 + (mxl y + 11) + (rmD d b.1 b.2).locals ≤ room_1.locals := ⟨by show d + 1 + 1 ≤ 2048; omega, by show 8 + (mxl y + 11) + (60 + 60 * d) ≤ 84000; omega⟩
  have hM9 := Ev_ctr l d y [pR o] (b, L) P M none (kz L') P' M' hE hy D ad cA tys H.size
  have hws : wsM y = Cond.code (mN y) (cod y) (mxl y) none :: GW := by unfold wsM; rw [hv3]
  have hvas' : ∀ v ∈ [pR o], vok (kz L) v := by
    intro v hv
    rw [List.mem_singleton.mp hv]
    exact ho
  rw [hnar] at f6
  refine lw_go (b := b) (κ' := kz L') (P' := P') (M' := M') (r := none) (rest := rest) (a9 := (Value.ref (ad o) :: ([] : List PV).map (val ad)).toArray) hW hS ?_ h
  exact va_runI (Ts := GW) (nL := 8) (n := 0) (As := []) ⟨hx, hb, hml, hown, hts⟩ hM9 (cwI 0 hts (wsM_good (mi := 0) hy) hws rfl rfl (hts _ f1) (hts _ hwk) (hts _ f51) hv2 ⟨f2.1, f2.2, f6⟩ hrm) ⟨PcM_blind, fun U hU hWU => lw_pre (as := [pR o]) (b := b) G hW hS hK hT hvas' U hU hWU⟩ rfl rfl hl rfl (lv_room hs4) hd hcs
end
set_option maxRecDepth 100000 in
theorem st_words : Cond.classLink R_lw 8 (crow 10).1 ∈ GW ∧ Cond.classLink R_lw 23 (crow 11).1 ∈ GW ∧ Cond.methodLink R_lw 22 (mN 0) ∈ GW ∧ Cond.methodLink R_lw 25 (mN 156) ∈ GW ∧ Cond.arrayClass .long ∈ GW := ⟨in_GW (i := 158) (by decide +kernel) rfl, in_GW (i := 1221) (by decide +kernel) rfl, in_GW (i := 160) (by decide +kernel) rfl, in_GW (i := 1223) (by decide +kernel) rfl, in_GW (i := 322) (by decide +kernel) rfl⟩
section
variable {p : Program} {l : Launch} {e : Env} {s : State} {m : MethodId} {args : Array Value} {below : List Frame} {meth : Method} {c : Code} {D : va_G} {QQ : State → Prop} {a0 b : Nat} {ls : Array Slot}
/-- from the law's entry to its loop -/
theorem l_start (G : Lx p s m c args) (hK : va_K D cls [] s) (hR : RoS a0 s) (hl : lv_has ls 8 [(0, .ref b)]) (h : ∀ (q1 q2 oa : Nat) (P Q : PM) (M N : MM) (xo : Int64) (H' : Heap) (locs' : List Loc) (cells slots : Nat) (ls' : Array Slot), lv_has ls' 8 (lsB b q1 q2 oa 0) → Both D s H' q1 q2 oa P M Q N xo → Rel 0 P Q M N → va_S (AS s) s.heap H' locs' → cells ≤ 1000 → slots ≤ 10000 → W p l e room_1 s m args below meth c H' locs' cells slots QQ (F0 m 23 ls' [])) : W p l e room_1 s m args below meth c s.heap [] 0 0 QQ (F0 m 0 ls []) := by
  obtain ⟨hx, hb, hml, hown, hts, hnx, hao⟩ := id G
  obtain ⟨g1, g2, g3, g4, g5⟩ := st_words
  refine l_new (ci := 10) (nf := 19) (a0 := a0) (ws := []) (by decide) (by decide +kernel) g1 G hK (fun k q h => by simp at h) ⟨fun i j x y h => by simp at h, fun k x h => by simp at h⟩ va_S.rf (by decide +kernel : decode code 0 = .ok (.new 8, 3)) (by decide +kernel) (fun q1 H1 hP1 hD1 hS1 => ?_)
  refine lv_dup hx hb (by decide +kernel : decode code 3 = .ok (.dup, 1)) rfl ?_
  have hq1 := D_last hD1
  have w1 : Wd D s H1 (adQ a0 q1) (fun _ => 0) [(9, 13), (0, 10)] P00 M00 := Wd_one (by decide) hP1 hq1.2 hK hR
  obtain ⟨P1, M1, e1, r1⟩ := c_new0 200 (by decide)
  refine lw_init (y := 0) (o := 1) (ad := adQ a0 q1) (d := 200) (b := (183, 3037)) (L := LC.take 2) G (by decide) (by decide +kernel) (by decide +kernel) (by decide +kernel) g3 (by decide +kernel : decode code 4 = .ok (.invokespecial 22, 3)) (by decide +kernel) (by decide +kernel) (Nat.le_of_ble_eq_true rfl) e1 (by decide) (by decide +kernel) w1 hS1 hl.1 (fun ad1 cA1 H2 locs2 a1 a2 a3 a4 a5 a6 => ?_)
  have b1 : ad1 1 = q1 := a1 1 (by decide +kernel)
  refine lv_astore_n (i := 1) (lv' := [(1, .ref q1), (0, .ref b)]) hx hb (by decide +kernel : decode code 7 = .ok (.astore_n 1, 1)) rfl hl (by decide) rfl (fun ls1 hl1 => ?_)
  refine l_new (ci := 11) (nf := 44) (a0 := a0) (ws := wsOf ad1 cA1 (kz LC) P1 M1) (by decide) (by decide +kernel) g2 G hK a2.1 a2.2.1 a6 (by decide +kernel : decode code 8 = .ok (.new 23, 3)) (by decide +kernel) (fun q2 H3 hP3 hD3 hS3 => ?_)
  refine lv_dup hx hb (by decide +kernel : decode code 11 = .ok (.dup, 1)) rfl ?_
  have hq2 := D_last hD3
  have w13 : Wd D s H3 ad1 cA1 LC P1 M1 := ⟨P_left hP3, a2.2⟩
  have w2 : Wd D s H3 (adQ a0 q2) (fun _ => 0) [(9, 13), (0, 11)] P00 M00 := Wd_one (by decide) (P_right hP3) hq2.2 hK hR
  obtain ⟨P2, M2, e2, r2⟩ := c_new1 200 (by decide)
  have o2 : ∀ q, aOf (wsOf (adQ a0 q2) (fun _ => 0) (kz [(9, 13), (0, 11)]) P00 M00) q → q = q2 := by
    rw [ws_one]
    rintro q ⟨k, e9, hk⟩
    cases k with
    | zero => cases hk; rfl
    | succ k => cases hk
  refine lw_init (y := 156) (o := 1) (ad := adQ a0 q2) (d := 200) (b := (22, 3004)) (L := [(9, 13), (0, 11)]) G (by decide) (by decide +kernel) (by decide +kernel) (by decide +kernel) g4 (by decide +kernel : decode code 12 = .ok (.invokespecial 25, 3)) (by decide +kernel) (by decide) (Nat.le_of_ble_eq_true rfl) e2 (by decide) (by decide +kernel) w2 hS3 hl1.1 (fun ad2 cA2 H4 locs4 c1 c2 c3 c4 c5 c6 => ?_)
  have b2 : ad2 1 = q2 := c1 1 (by decide)
  have w14 : Wd D s H4 ad1 cA1 LC P1 M1 := Wd_kept w13 (fun q hq => c4 q (Wd_lt w13 hq).1 (fun w => by rw [o2 q w] at hq; exact hq2.1 hq))
  have dis : ∀ q, aOf (wsOf ad1 cA1 (kz LC) P1 M1) q → ¬ aOf (wsOf ad2 cA2 (kz LR) P2 M2) q := fun q hq hq9 => (c5 q hq9).elim (fun w => by rw [o2 q w] at hq; exact hq2.1 hq) (fun w => by have := (Wd_lt w13 hq).1; omega)
  refine lv_astore_n (i := 2) (lv' := [(2, .ref q2), (1, .ref q1), (0, .ref b)]) hx hb (by decide +kernel : decode code 15 = .ok (.astore_n 2, 1)) rfl hl1 (by decide) rfl (fun ls2 hl2 => ?_)
  refine lv_iconst (v := 1) hx hb (by decide +kernel : decode code 16 = .ok (.iconst 1, 1)) rfl ?_
  have hDD : va_D (AS s) (wsOf ad1 cA1 (kz LC) P1 M1 ++ wsOf ad2 cA2 (kz LR) P2 M2) := va_D.app a2.2.1 c2.2.1 (fun i j x y hx9 hy9 he => dis x.1 ⟨i, x.2, hx9⟩ ⟨j, y.2, by rw [he]; exact hy9⟩)
  refine va_newa (atype := .long) (n := 1) (N' := 1) (ty := .long) (a0 := (1, .inr (.inl fun _ => 0))) hx hb (hts _ g5) rfl hK (va_P.app w14.1 c2.1) hDD c6 (fun _ h => h) (fun _ => rfl) (by decide) (by decide) (by decide) (by decide +kernel) (by decide +kernel) (by decide +kernel : decode code 17 = .ok (.newarray .long, 2)) (fun oa cO H5 k1 k2 k3 k4 => ?_)
  have hoa := D_last k3
  refine lv_astore_n (i := 3) (lv' := [(3, .ref oa), (2, .ref q2), (1, .ref q1), (0, .ref b)]) hx hb (by decide +kernel : decode code 19 = .ok (.astore_n 3, 1)) rfl hl2 (by decide) rfl (fun ls3 hl3 => ?_)
  refine lv_iconst (v := 0) hx hb (by decide +kernel : decode code 20 = .ok (.iconst 0, 1)) rfl ?_
  refine lv_istore (lv' := [(4, .int 0), (3, .ref oa), (2, .ref q2), (1, .ref q1), (0, .ref b)]) hx hb (by decide +kernel : decode code 21 = .ok (.istore 4, 2)) hl3 (by decide) rfl (fun ls4 hl4 => ?_)
  have nA : ∀ q, aOf (wsOf ad1 cA1 (kz LC) P1 M1) q → aOf (wsOf ad1 cA1 (kz LC) P1 M1 ++ wsOf ad2 cA2 (kz LR) P2 M2) q := fun q ⟨k, e9, hk⟩ => ⟨k, e9, by rw [List.getElem?_append_left (List.getElem?_eq_some_iff.mp hk).1]; exact hk⟩
  have nB : ∀ q, aOf (wsOf ad2 cA2 (kz LR) P2 M2) q → aOf (wsOf ad1 cA1 (kz LC) P1 M1 ++ wsOf ad2 cA2 (kz LR) P2 M2) q := fun q ⟨k, e9, hk⟩ => ⟨(wsOf ad1 cA1 (kz LC) P1 M1).length + k, e9, by rw [List.getElem?_append_right (by omega), Nat.add_sub_cancel_left]; exact hk⟩
  refine h q1 q2 oa P1 P2 M1 M2 0 H5 _ _ _ ls4 (lv_sub hl4 [4, 3, 2, 1, 0] (by rw [show (0 : Int32) = nI 0 from rfl]; rfl)) ⟨ad1, cA1, ad2, cA2, cO, fun _ => 0, ⟨P_left (P_left k2), w14.2⟩, ⟨P_right (P_left k2), c2.2⟩, ⟨b1, b2⟩, ⟨P_right k2, hoa.2, k1, rfl⟩, dis, fun w => hoa.1 (nA _ w), fun w => hoa.1 (nB _ w)⟩ ?_ k4 ?_ ?_
  · rw [r1.1, r2.1, r2.2]
    exact Rel_0 r1.2.1 r1.2.2
  · decide +kernel
  · decide +kernel
end
