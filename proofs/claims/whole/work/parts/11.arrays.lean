/-! the instructions on arrays; the cases by wip/gen/gen_arr.py -/
theorem vp_nb {x : Int} (h1 : -128 ≤ x) (h2 : x < 128) : vp_nar .byte (Int32.ofInt x) = Int32.ofInt x := by
  have hr : r32 x := by unfold r32; omega
  rw [vp_nar_byte, oI_i2b hr]
  congr 1
  unfold w8
  omega
theorem vp_nz {x : Int} (h : x = 0 ∨ x = 1) : vp_nar .boolean (Int32.ofInt x) = Int32.ofInt x := by
  rcases h with rfl | rfl <;> rfl
theorem vp_nc {x : Int} (h1 : 0 ≤ x) (h2 : x < 65536) : vp_nar .char (Int32.ofInt x) = Int32.ofInt x := by
  have e : (( Int32.ofInt x).toUInt32 % 65536).toInt32 = Int32.ofInt x := by
    rw [oI_i2c]
    congr 1
    omega
  have := pk_vc (Int32.ofInt x)
  rw [e] at this
  exact this
theorem fupd {f : Nat → Int} {k : Nat} {x : Int} : upd (fun j => Int32.ofInt (f j)) k (Int32.ofInt x) = fun j => Int32.ofInt (if j = k then x else f j) := by
  funext j
  unfold upd
  split <;> rfl
theorem fupdL {f : Nat → Int} {k : Nat} {x : Int} : vp_updL (fun j => Int64.ofInt (f j)) k (Int64.ofInt x) = fun j => Int64.ofInt (if j = k then x else f j) := by
  funext j
  unfold vp_updL
  split <;> rfl
theorem fupdQ {ad : Nat → Nat} {f : Nat → Nat} {k x : Nat} (hx : x ≠ 0) : va_up (fun j => rfl9 ad (f j)) k (some (ad x)) = fun j => rfl9 ad (if j = k then x else f j) := by
  funext j
  unfold va_up
  split
  · unfold rfl9; rw [if_neg hx]
  · rfl
theorem cell_i {ad : Nat → Nat} {c : ClassId} {k : Nat × Nat} {p : Nat → Nat} {f : Nat → Int} (hk : k.1 = 1 ∨ k.1 = 2 ∨ k.1 = 3 ∨ k.1 = 4) : cellOf ad c k p f = .inl (c, k.2, .inl (fun j => Int32.ofInt (f j))) := by
  unfold cellOf
  rw [if_neg (by omega), if_neg (by omega), if_neg (by omega)]
theorem cell_l {ad : Nat → Nat} {c : ClassId} {k : Nat × Nat} {p : Nat → Nat} {f : Nat → Int} (hk : k.1 = 5) : cellOf ad c k p f = .inl (c, k.2, .inr (.inl (fun j => Int64.ofInt (f j)))) := by
  unfold cellOf
  rw [if_neg (by omega), if_pos hk]
theorem cell_q {ad : Nat → Nat} {c : ClassId} {k : Nat × Nat} {p : Nat → Nat} {f : Nat → Int} (hk : k.1 = 6 ∨ k.1 = 7) : cellOf ad c k p f = .inl (c, k.2, .inr (.inr (.inr (.inr (fun j => rfl9 ad (p j)))))) := by
  unfold cellOf
  rw [if_neg (by omega), if_neg (by omega), if_pos hk]
theorem tyk_a {k : Nat × Nat} {t j : Nat} (hk : k.1 = t) (ht : t ≠ 0) : tyk k j = t := by
  unfold tyk
  rw [if_neg (by omega), hk]
theorem rngF_1 {x : Int} (h : r32 x) : rngF 1 x := h
theorem rngF_2 {x : Int} (h : x = 0 ∨ x = 1) : rngF 2 x := h
theorem rngF_3 {x : Int} (h : -128 ≤ x ∧ x < 128) : rngF 3 x := h
theorem rngF_4 {x : Int} (h : 0 ≤ x ∧ x < 65536) : rngF 4 x := h
theorem rngF_5 {x : Int} (h : r64 x) : rngF 5 x := h
theorem Inv_u {z : Nat × (Nat → Nat)} {D : va_G} {A : Nat → Prop} {R : Room} {s : State} {ad : Nat → Nat} {cA : Nat → ClassId} {tys : List (ClassId × FieldType)} {κ : KK} {P : PM} {M : MM} {H H1 : Heap} {locs locs1 : List Loc} {cells slots a k : Nat} {x : Int} {e : va_E} (I : Inv z D A R s ad cA tys κ P M H locs cells slots) (h0 : a ≠ 0) (he : cellOf ad (cA a) (kd κ a) (P a) (uM M a k x a) = e) (hr : rngF (tyk (kd κ a) k) x) (g1 : va_P D cls ((wsOf ad cA κ P M).set (a - 1) (ad a, e)) H1) (g2 : va_D A ((wsOf ad cA κ P M).set (a - 1) (ad a, e))) (g3 : va_S A s.heap H1 locs1) : Inv z D A R s ad cA tys κ P (uM M a k x) H1 locs1 cells slots := by
  obtain ⟨hK, hP, hD, hS, hT, hM, hPo, hKo, hcs, hRo⟩ := I
  rw [wsOf_set (P' := P) (M' := uM M a k x) (by omega) (fun _ _ => rfl) (fun q hq => uM_ne hq) he] at g1 g2
  exact ⟨hK, g1, g2, g3, hT, Mok_u hM hr, hPo, hKo, hcs, Ro_u hRo h0⟩
section HA
variable {p : Program} {l : Launch} {e : Env} {R : Room} {s : State} {m : MethodId} {args : Array Value} {below : List Frame} {meth : Method} {c : Code} {mi : Nat} {z : Nat × (Nat → Nat)} {D : va_G} {A : Nat → Prop} {QQ : State → Prop} {E : CR} {Q : QT} {X : XT} {len pc idx : Nat} {pl : PL} {st : List PV} {κ : KK} {P : PM} {M : MM}
theorem snd_iald (G : Gx p R s m args meth c mi A) (hd : decode (cod mi) pc = .ok (.iaload, len)) (h : stepP E mi Q X (.iaload) len pc pl st κ P M (Snd p l e R s m args below meth c mi z D A QQ)) : Snd p l e R s m args below meth c mi z D A QQ pc pl st κ P M := by
  obtain ⟨hx, hb, hml, hown, hts, hnx, hao, hA, hname, hroom, hmi⟩ := G
  obtain ⟨rfl, j, st1, rfl, a, st2, rfl, hk, h1, h2, h⟩ := h
  intro ad cA tys H locs cells slots ls I hl hn hst hpl
  obtain ⟨hK, hP, hD, hS, hT, hM, hPo, hKo, hcs, hRo⟩ := id I
  have h0 : a ≠ 0 := k1_ne0 hKo hk (by decide)
  have hj := vhI hst
  obtain ⟨t9, ht9⟩ := List.getElem?_of_mem (hT a (by omega) (kd1_lt rfl (by omega)) (by omega))
  have ha := ws_arr (κ := κ) (ad := ad) (cA := cA) (P := P) (M := M) h0 (Or.inl hk)
  have hr := hM a j.toNat (kd1_lt rfl (by omega))
  refine va_iald (i := Int32.ofInt j) hx hb hK hP (a - 1) t9 ha (by rw [ht9, hk]; rfl) (oI_in hj h1 h2) hd ?_
  rw [oI_nat hj]
  exact h ad cA tys H locs cells slots ls I hl hn (vkI (rngF_32 hr (by unfold tyk; rw [if_neg (by omega)]; omega)) (vt1 (vt1 hst))) hpl
theorem snd_bald (G : Gx p R s m args meth c mi A) (hd : decode (cod mi) pc = .ok (.baload, len)) (h : stepP E mi Q X (.baload) len pc pl st κ P M (Snd p l e R s m args below meth c mi z D A QQ)) : Snd p l e R s m args below meth c mi z D A QQ pc pl st κ P M := by
  obtain ⟨hx, hb, hml, hown, hts, hnx, hao, hA, hname, hroom, hmi⟩ := G
  obtain ⟨rfl, j, st1, rfl, a, st2, rfl, hk, h1, h2, h⟩ := h
  intro ad cA tys H locs cells slots ls I hl hn hst hpl
  obtain ⟨hK, hP, hD, hS, hT, hM, hPo, hKo, hcs, hRo⟩ := id I
  have h0 : a ≠ 0 := by rcases hk with q | q <;> exact k1_ne0 hKo q (by decide)
  have hj := vhI hst
  obtain ⟨t9, ht9⟩ := List.getElem?_of_mem (hT a (by omega) (kd1_lt rfl (by omega)) (by omega))
  have ha := ws_arr (κ := κ) (ad := ad) (cA := cA) (P := P) (M := M) h0 (by omega)
  have hr := hM a j.toNat (kd1_lt rfl (by omega))
  have fin9 := h ad cA tys H locs cells slots ls I hl hn (vkI (rngF_32 hr (by unfold tyk; rw [if_neg (by omega)]; omega)) (vt1 (vt1 hst))) hpl
  rcases hk with hk | hk
  · refine va_zald (i := Int32.ofInt j) hx hb hK hP (a - 1) t9 ha (by rw [ht9, hk]; rfl) (oI_in hj h1 h2) hd ?_
    rw [oI_nat hj]
    exact fin9
  · refine va_bald (i := Int32.ofInt j) hx hb hK hP (a - 1) t9 ha (by rw [ht9, hk]; rfl) (oI_in hj h1 h2) hd ?_
    rw [oI_nat hj]
    exact fin9
theorem snd_cald (G : Gx p R s m args meth c mi A) (hd : decode (cod mi) pc = .ok (.caload, len)) (h : stepP E mi Q X (.caload) len pc pl st κ P M (Snd p l e R s m args below meth c mi z D A QQ)) : Snd p l e R s m args below meth c mi z D A QQ pc pl st κ P M := by
  obtain ⟨hx, hb, hml, hown, hts, hnx, hao, hA, hname, hroom, hmi⟩ := G
  obtain ⟨rfl, j, st1, rfl, a, st2, rfl, hk, h1, h2, h⟩ := h
  intro ad cA tys H locs cells slots ls I hl hn hst hpl
  obtain ⟨hK, hP, hD, hS, hT, hM, hPo, hKo, hcs, hRo⟩ := id I
  have hj := vhI hst
  have hr := hM a j.toNat (kd1_lt rfl (by omega))
  have fin9 := h ad cA tys H locs cells slots ls I hl hn (vkI (rngF_32 hr (by unfold tyk; rw [if_neg (by omega)]; omega)) (vt1 (vt1 hst))) hpl
  rcases hk with hk | ⟨rfl, hk⟩
  · have h0 : a ≠ 0 := k1_ne0 hKo hk (by decide)
    obtain ⟨t9, ht9⟩ := List.getElem?_of_mem (hT a (by omega) (kd1_lt rfl (by omega)) (by omega))
    have ha := ws_arr (κ := κ) (ad := ad) (cA := cA) (P := P) (M := M) h0 (by omega)
    refine va_cald (i := Int32.ofInt j) hx hb hK hP (a - 1) t9 ha (by rw [ht9, hk]; rfl) (oI_in hj h1 h2) hd ?_
    rw [oI_nat hj]
    exact fin9
  · by_cases h13 : kd κ 0 = (9, 13)
    · obtain ⟨_, f, hT9, hf⟩ := hRo h13
      have h2 : j < 13 := by rw [h13] at h2; exact h2
      refine va_tc (i := Int32.ofInt j) hx hb hT9 hS (oI_in hj h1 h2) (v := .int (Int32.ofInt (M 0 j.toNat))) ?_ hd fin9
      rw [oI_nat hj]
      exact hf _ (by omega)
    · exact absurd hKo.1.2 h13
theorem snd_lald (G : Gx p R s m args meth c mi A) (hd : decode (cod mi) pc = .ok (.laload, len)) (h : stepP E mi Q X (.laload) len pc pl st κ P M (Snd p l e R s m args below meth c mi z D A QQ)) : Snd p l e R s m args below meth c mi z D A QQ pc pl st κ P M := by
  obtain ⟨hx, hb, hml, hown, hts, hnx, hao, hA, hname, hroom, hmi⟩ := G
  obtain ⟨rfl, j, st1, rfl, a, st2, rfl, hk, h1, h2, h⟩ := h
  intro ad cA tys H locs cells slots ls I hl hn hst hpl
  obtain ⟨hK, hP, hD, hS, hT, hM, hPo, hKo, hcs, hRo⟩ := id I
  have h0 : a ≠ 0 := k1_ne0 hKo hk (by decide)
  have hj := vhI hst
  obtain ⟨t9, ht9⟩ := List.getElem?_of_mem (hT a (by omega) (kd1_lt rfl (by omega)) (by omega))
  have ha := ws_larr (κ := κ) (ad := ad) (cA := cA) (P := P) (M := M) h0 hk
  have hr := hM a j.toNat (kd1_lt rfl (by omega))
  refine va_lald (i := Int32.ofInt j) hx hb hK hP (a - 1) t9 ha (by rw [ht9, hk]; rfl) (oI_in hj h1 h2) hd ?_
  rw [oI_nat hj]
  exact h ad cA tys H locs cells slots ls I hl hn (vkL (rngF_64 hr (by unfold tyk; rw [if_neg (by omega)]; omega)) (vt1 (vt1 hst))) hpl
theorem snd_aald (G : Gx p R s m args meth c mi A) (hd : decode (cod mi) pc = .ok (.aaload, len)) (h : stepP E mi Q X (.aaload) len pc pl st κ P M (Snd p l e R s m args below meth c mi z D A QQ)) : Snd p l e R s m args below meth c mi z D A QQ pc pl st κ P M := by
  obtain ⟨hx, hb, hml, hown, hts, hnx, hao, hA, hname, hroom, hmi⟩ := G
  obtain ⟨rfl, j, st1, rfl, a, st2, rfl, hk, h1, h2, hp0, h⟩ := h
  intro ad cA tys H locs cells slots ls I hl hn hst hpl
  obtain ⟨hK, hP, hD, hS, hT, hM, hPo, hKo, hcs, hRo⟩ := id I
  have h0 : a ≠ 0 := by rcases hk with q | q <;> exact k1_ne0 hKo q (by decide)
  have hj := vhI hst
  obtain ⟨t9, ht9⟩ := List.getElem?_of_mem (hT a (by omega) (kd1_lt rfl (by omega)) (by omega))
  have ha := ws_qarr (κ := κ) (ad := ad) (cA := cA) (P := P) (M := M) h0 hk
  have fin9 := h ad cA tys H locs cells slots ls I hl hn (vk1 (hPo a j.toNat) (vt1 (vt1 hst))) hpl
  have ev : va_rf (rfl9 ad (P a j.toNat)) = val ad (pR (P a j.toNat)) := by unfold rfl9; rw [if_neg hp0]; rfl
  rcases hk with hk | hk
  · refine va_aldq (i := Int32.ofInt j) (C := "BuriedWithIt$State") hx hb hK hP (a - 1) t9 ha (by rw [ht9, hk]; rfl) (oI_in hj h1 h2) hd ?_
    rw [oI_nat hj, ev]
    exact fin9
  · refine va_aldq (i := Int32.ofInt j) (C := "BuriedWithIt$Path") hx hb hK hP (a - 1) t9 ha (by rw [ht9, hk]; rfl) (oI_in hj h1 h2) hd ?_
    rw [oI_nat hj, ev]
    exact fin9
theorem snd_iast (G : Gx p R s m args meth c mi A) (hd : decode (cod mi) pc = .ok (.iastore, len)) (h : stepP E mi Q X (.iastore) len pc pl st κ P M (Snd p l e R s m args below meth c mi z D A QQ)) : Snd p l e R s m args below meth c mi z D A QQ pc pl st κ P M := by
  obtain ⟨hx, hb, hml, hown, hts, hnx, hao, hA, hname, hroom, hmi⟩ := G
  obtain ⟨rfl, x, st0, rfl, j, st1, rfl, a, st2, rfl, hk, h1, h2, h⟩ := h
  intro ad cA tys H locs cells slots ls I hl hn hst hpl
  obtain ⟨hK, hP, hD, hS, hT, hM, hPo, hKo, hcs, hRo⟩ := id I
  have h0 : a ≠ 0 := k1_ne0 hKo hk (by decide)
  have hj := vhI (vt1 hst)
  have hx9 := vhI hst
  obtain ⟨t9, ht9⟩ := List.getElem?_of_mem (hT a (by omega) (kd1_lt rfl (by omega)) (by omega))
  have ha := ws_arr (κ := κ) (ad := ad) (cA := cA) (P := P) (M := M) h0 (Or.inl hk)
  refine va_iast (i := Int32.ofInt j) (x := Int32.ofInt x) hx hb hK hP hD hS (a - 1) t9 ha (by rw [ht9, hk]; rfl) (oI_in hj h1 h2) hd ?_
  rw [oI_nat hj, fupd]
  intro H1 locs1 g1 g2 g3
  refine h ad cA tys H1 locs1 cells slots ls (Inv_u I h0 ?_ ?_ g1 g2 g3) hl hn (vt1 (vt1 (vt1 hst))) hpl
  · rw [cell_i (Or.inl hk), uM_self]
  · rw [tyk_a hk (by decide)]; exact rngF_1 hx9
theorem snd_last (G : Gx p R s m args meth c mi A) (hd : decode (cod mi) pc = .ok (.lastore, len)) (h : stepP E mi Q X (.lastore) len pc pl st κ P M (Snd p l e R s m args below meth c mi z D A QQ)) : Snd p l e R s m args below meth c mi z D A QQ pc pl st κ P M := by
  obtain ⟨hx, hb, hml, hown, hts, hnx, hao, hA, hname, hroom, hmi⟩ := G
  obtain ⟨rfl, x, st0, rfl, j, st1, rfl, a, st2, rfl, hk, h1, h2, h⟩ := h
  intro ad cA tys H locs cells slots ls I hl hn hst hpl
  obtain ⟨hK, hP, hD, hS, hT, hM, hPo, hKo, hcs, hRo⟩ := id I
  have h0 : a ≠ 0 := k1_ne0 hKo hk (by decide)
  have hj := vhI (vt1 hst)
  have hx9 := vhL hst
  obtain ⟨t9, ht9⟩ := List.getElem?_of_mem (hT a (by omega) (kd1_lt rfl (by omega)) (by omega))
  have ha := ws_larr (κ := κ) (ad := ad) (cA := cA) (P := P) (M := M) h0 hk
  refine va_last (i := Int32.ofInt j) (x := Int64.ofInt x) hx hb hK hP hD hS (a - 1) t9 ha (by rw [ht9, hk]; rfl) (oI_in hj h1 h2) hd ?_
  rw [oI_nat hj, fupdL]
  intro H1 locs1 g1 g2 g3
  refine h ad cA tys H1 locs1 cells slots ls (Inv_u I h0 ?_ ?_ g1 g2 g3) hl hn (vt1 (vt1 (vt1 hst))) hpl
  · rw [cell_l hk, uM_self]
  · rw [tyk_a hk (by decide)]; exact rngF_5 hx9
theorem snd_bast (G : Gx p R s m args meth c mi A) (hd : decode (cod mi) pc = .ok (.bastore, len)) (h : stepP E mi Q X (.bastore) len pc pl st κ P M (Snd p l e R s m args below meth c mi z D A QQ)) : Snd p l e R s m args below meth c mi z D A QQ pc pl st κ P M := by
  obtain ⟨hx, hb, hml, hown, hts, hnx, hao, hA, hname, hroom, hmi⟩ := G
  obtain ⟨rfl, x, st0, rfl, j, st1, rfl, a, st2, rfl, hk, h1, h2, h⟩ := h
  intro ad cA tys H locs cells slots ls I hl hn hst hpl
  obtain ⟨hK, hP, hD, hS, hT, hM, hPo, hKo, hcs, hRo⟩ := id I
  have h0 : a ≠ 0 := by rcases hk with ⟨q, _⟩ | ⟨q, _⟩ <;> exact k1_ne0 hKo q (by decide)
  have hj := vhI (vt1 hst)
  have hx9 := vhI hst
  obtain ⟨t9, ht9⟩ := List.getElem?_of_mem (hT a (by omega) (kd1_lt rfl (by omega)) (by omega))
  have ha := ws_arr (κ := κ) (ad := ad) (cA := cA) (P := P) (M := M) h0 (by omega)
  rcases hk with ⟨hk, hv⟩ | ⟨hk, hv⟩
  · refine va_zast (i := Int32.ofInt j) (x := Int32.ofInt x) hx hb hK hP hD hS (a - 1) t9 ha (by rw [ht9, hk]; rfl) (oI_in hj h1 h2) hd ?_
    rw [oI_nat hj, vp_nz hv, fupd]
    intro H1 locs1 g1 g2 g3
    refine h ad cA tys H1 locs1 cells slots ls (Inv_u I h0 ?_ ?_ g1 g2 g3) hl hn (vt1 (vt1 (vt1 hst))) hpl
    · rw [cell_i (by omega), uM_self]
    · rw [tyk_a hk (by decide)]; exact rngF_2 hv
  · refine va_bast (i := Int32.ofInt j) (x := Int32.ofInt x) hx hb hK hP hD hS (a - 1) t9 ha (by rw [ht9, hk]; rfl) (oI_in hj h1 h2) hd ?_
    rw [oI_nat hj, vp_nb hv.1 hv.2, fupd]
    intro H1 locs1 g1 g2 g3
    refine h ad cA tys H1 locs1 cells slots ls (Inv_u I h0 ?_ ?_ g1 g2 g3) hl hn (vt1 (vt1 (vt1 hst))) hpl
    · rw [cell_i (by omega), uM_self]
    · rw [tyk_a hk (by decide)]; exact rngF_3 hv
theorem snd_cast (G : Gx p R s m args meth c mi A) (hd : decode (cod mi) pc = .ok (.castore, len)) (h : stepP E mi Q X (.castore) len pc pl st κ P M (Snd p l e R s m args below meth c mi z D A QQ)) : Snd p l e R s m args below meth c mi z D A QQ pc pl st κ P M := by
  obtain ⟨hx, hb, hml, hown, hts, hnx, hao, hA, hname, hroom, hmi⟩ := G
  obtain ⟨rfl, x, st0, rfl, j, st1, rfl, a, st2, rfl, hk, hv, h1, h2, h⟩ := h
  intro ad cA tys H locs cells slots ls I hl hn hst hpl
  obtain ⟨hK, hP, hD, hS, hT, hM, hPo, hKo, hcs, hRo⟩ := id I
  have h0 : a ≠ 0 := k1_ne0 hKo hk (by decide)
  have hj := vhI (vt1 hst)
  have hx9 := vhI hst
  obtain ⟨t9, ht9⟩ := List.getElem?_of_mem (hT a (by omega) (kd1_lt rfl (by omega)) (by omega))
  have ha := ws_arr (κ := κ) (ad := ad) (cA := cA) (P := P) (M := M) h0 (by omega)
  refine va_cast (i := Int32.ofInt j) (x := Int32.ofInt x) hx hb hK hP hD hS (a - 1) t9 ha (by rw [ht9, hk]; rfl) (oI_in hj h1 h2) hd ?_
  rw [oI_nat hj, vp_nc hv.1 hv.2, fupd]
  intro H1 locs1 g1 g2 g3
  refine h ad cA tys H1 locs1 cells slots ls (Inv_u I h0 ?_ ?_ g1 g2 g3) hl hn (vt1 (vt1 (vt1 hst))) hpl
  · rw [cell_i (by omega), uM_self]
  · rw [tyk_a hk (by decide)]; exact rngF_4 hv
theorem snd_aast (G : Gx p R s m args meth c mi A) (hd : decode (cod mi) pc = .ok (.aastore, len)) (h : stepP E mi Q X (.aastore) len pc pl st κ P M (Snd p l e R s m args below meth c mi z D A QQ)) : Snd p l e R s m args below meth c mi z D A QQ pc pl st κ P M := by
  obtain ⟨hx, hb, hml, hown, hts, hnx, hao, hA, hname, hroom, hmi⟩ := G
  obtain ⟨rfl, x, st0, rfl, j, st1, rfl, a, st2, rfl, hk, h1, h2, h⟩ := h
  intro ad cA tys H locs cells slots ls I hl hn hst hpl
  obtain ⟨hK, hP, hD, hS, hT, hM, hPo, hKo, hcs, hRo⟩ := id I
  have h0 : a ≠ 0 := by rcases hk with ⟨q, _⟩ | ⟨q, _⟩ <;> exact k1_ne0 hKo q (by decide)
  have hj := vhI (vt1 hst)
  have hxl : x < κ.2.length := vh1 hst
  obtain ⟨t9, ht9⟩ := List.getElem?_of_mem (hT a (by omega) (kd1_lt rfl (by omega)) (by omega))
  have ha := ws_qarr (κ := κ) (ad := ad) (cA := cA) (P := P) (M := M) h0 (by omega)
  have hx0 : x ≠ 0 := by rcases hk with ⟨_, q⟩ | ⟨_, q⟩ <;> exact k_ne0 hKo q (by decide)
  have hk67 : (kd κ a).1 = 6 ∨ (kd κ a).1 = 7 := by omega
  have key : ∀ (H1 : Heap) (locs1 : List Loc), va_P D cls ((wsOf ad cA κ P M).set (a - 1) (ad a, .inl (cA a, (kd κ a).2, .inr (.inr (.inr (.inr (fun q => rfl9 ad (if q = j.toNat then x else P a q)))))))) H1 → va_D A ((wsOf ad cA κ P M).set (a - 1) (ad a, .inl (cA a, (kd κ a).2, .inr (.inr (.inr (.inr (fun q => rfl9 ad (if q = j.toNat then x else P a q)))))))) → va_S A s.heap H1 locs1 → W p l e R s m args below meth c H1 locs1 cells slots QQ (F0 m (pc + 1) ls (st2.map (val ad))) := by
    intro H1 locs1 g1 g2 g3
    rw [wsOf_set (P' := uP P a j.toNat x) (M' := M) (by omega) (fun q hq => uP_ne hq) (fun _ _ => rfl) (by rw [cell_q hk67, uP_self])] at g1 g2
    exact h ad cA tys H1 locs1 cells slots ls ⟨hK, g1, g2, g3, hT, hM, Pok_u hPo hxl, hKo, hcs, hRo⟩ hl hn (vt1 (vt1 (vt1 hst))) hpl
  rcases hk with ⟨hk, hkx⟩ | ⟨hk, hkx⟩
  · have hv := ws_obj (ad := ad) (cA := cA) (P := P) (M := M) hx0 hkx
    refine va_astq (i := Int32.ofInt j) hx hb hK hP hD hS (a - 1) t9 (x - 1) 7 ha (by rw [ht9, hk]; rfl) hv (cls_at (by decide)) (oI_in hj h1 h2) hd ?_
    rw [oI_nat hj, fupdQ hx0]
    exact key
  · have hv := ws_obj (ad := ad) (cA := cA) (P := P) (M := M) hx0 hkx
    refine va_astq (i := Int32.ofInt j) hx hb hK hP hD hS (a - 1) t9 (x - 1) 5 ha (by rw [ht9, hk]; rfl) hv (cls_at (by decide)) (oI_in hj h1 h2) hd ?_
    rw [oI_nat hj, fupdQ hx0]
    exact key
theorem snd_alen (G : Gx p R s m args meth c mi A) (hd : decode (cod mi) pc = .ok (.arraylength, len)) (h : stepP E mi Q X (.arraylength) len pc pl st κ P M (Snd p l e R s m args below meth c mi z D A QQ)) : Snd p l e R s m args below meth c mi z D A QQ pc pl st κ P M := by
  obtain ⟨hx, hb, hml, hown, hts, hnx, hao, hA, hname, hroom, hmi⟩ := G
  obtain ⟨rfl, a, st1, rfl, hk, h⟩ := h
  intro ad cA tys H locs cells slots ls I hl hn hst hpl
  obtain ⟨hK, hP, hD, hS, hT, hM, hPo, hKo, hcs, hRo⟩ := id I
  have hkl : a < κ.2.length := kd1_lt rfl (by omega)
  have hr : r32 ((kd κ a).2 : Int) := by
    by_cases h0 : a = 0
    · subst h0
      rw [hKo.1.2]; unfold r32; decide
    · have := (hKo.2 a (by omega) hkl).2.2
      unfold r32
      omega
  have fin9 := h ad cA tys H locs cells slots ls I hl hn (vkI hr (vt1 hst)) hpl
  have ev : Int32.ofNat (kd κ a).2 = Int32.ofInt ((kd κ a).2 : Int) := rfl
  by_cases h0 : a = 0
  · subst h0
    by_cases h13 : kd κ 0 = (9, 13)
    · obtain ⟨_, f, hT9, hf⟩ := hRo h13
      refine va_tlen hx hb hT9 hS (v := Int32.ofInt ((kd κ 0).2 : Int)) (by rw [h13]; rfl) hd fin9
    · exact absurd hKo.1.2 h13
  · have hk7 := (hKo.2 a (by omega) hkl).1
    obtain ⟨t9, ht9⟩ := List.getElem?_of_mem (hT a (by omega) (kd1_lt rfl (by omega)) (by omega))
    have hw := wsOf_get (ad := ad) (cA := cA) (P := P) (M := M) (show 1 ≤ a by omega) hkl
    rcases (show (kd κ a).1 = 5 ∨ ((kd κ a).1 = 6 ∨ (kd κ a).1 = 7) ∨ ((kd κ a).1 = 1 ∨ (kd κ a).1 = 2 ∨ (kd κ a).1 = 3 ∨ (kd κ a).1 = 4) by omega) with q | q | q
    · rw [cell_l q] at hw; exact va_alen hx hb hK hP (a - 1) t9 hw ht9 ev hd fin9
    · rw [cell_q q] at hw; exact va_alen hx hb hK hP (a - 1) t9 hw ht9 ev hd fin9
    · rw [cell_i q] at hw; exact va_alen hx hb hK hP (a - 1) t9 hw ht9 ev hd fin9
theorem snd_gst (G : Gx p R s m args meth c mi A) (hd : decode (cod mi) pc = .ok (.getstatic idx, len)) (h : stepP E mi Q X (.getstatic idx) len pc pl st κ P M (Snd p l e R s m args below meth c mi z D A QQ)) : Snd p l e R s m args below meth c mi z D A QQ pc pl st κ P M := by
  obtain ⟨hx, hb, hml, hown, hts, hnx, hao, hA, hname, hroom, hmi⟩ := G
  obtain ⟨rfl, hm6, rfl, hk, h⟩ := h
  intro ad cA tys H locs cells slots ls I hl hn hst hpl
  obtain ⟨hK, hP, hD, hS, hT, hM, hPo, hKo, hcs, hRo⟩ := id I
  obtain ⟨hZ, _⟩ := hRo hk
  have hw : lw_tbl[481]? = some (.fieldLink "BuriedWithIt$Rule" 43 "BuriedWithIt$Rule" "PLAIN" "[C") := by decide +kernel
  rw [hm6] at hown
  exact va_gets hx hb hZ hS hown (hts _ (in_GW hw rfl)) (fun _ q => q) hd (h ad cA tys H locs cells slots ls I hl hn (vk1 (show (0 : Nat) < κ.2.length from hKo.1.1) hst) hpl)
end HA
