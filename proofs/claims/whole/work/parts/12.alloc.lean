/-! new objects and arrays -/
theorem nt_ok {ow idx ci : Nat} (h : NT ow idx = some ci) : ci < 12 ∧ ∃ j : Nat, lw_tbl[j]? = some (.classLink (ownN ow) idx (crow ci).1) := by
  unfold NT at h
  obtain ⟨e, he, he2⟩ := Option.map_eq_some_iff.mp h
  have hp := List.find?_some he
  simp only [Bool.and_eq_true, beq_iff_eq] at hp
  obtain ⟨i, hi⟩ := List.getElem?_of_mem (List.mem_of_find?_eq_some he)
  have hl : i < nplc.length := by rw [← nchk.2]; exact (List.getElem?_eq_some_iff.mp hi).1
  have hz : (ntab.zip nplc)[i]? = some (e, nplc[i]) := by rw [List.getElem?_zip_eq_some]; exact ⟨hi, List.getElem?_eq_getElem hl⟩
  have hc := List.all_eq_true.mp nchk.1 _ (List.mem_of_getElem? hz)
  simp only [chkN, Bool.and_eq_true, decide_eq_true_eq] at hc
  rw [hp.1, hp.2, he2] at hc
  exact ⟨hc.1, _, hc.2⟩
def adN (ad : Nat → Nat) (n q : Nat) : Nat → Nat := fun o => if o = n then q else ad o
def cAN (cA : Nat → ClassId) (n : Nat) (q : ClassId) : Nat → ClassId := fun o => if o = n then q else cA o
theorem adN_lt {ad : Nat → Nat} {n q o : Nat} (h : o < n) : adN ad n q o = ad o := by unfold adN; rw [if_neg (by omega)]
theorem adN_self {ad : Nat → Nat} {n q : Nat} : adN ad n q n = q := by unfold adN; rw [if_pos rfl]
theorem cAN_lt {cA : Nat → ClassId} {n o : Nat} {q : ClassId} (h : o < n) : cAN cA n q o = cA o := by unfold cAN; rw [if_neg (by omega)]
theorem cAN_self {cA : Nat → ClassId} {n : Nat} {q : ClassId} : cAN cA n q n = q := by unfold cAN; rw [if_pos rfl]
theorem cell_ext {ad ad' : Nat → Nat} {c : ClassId} {k : Nat × Nat} {p : Nat → Nat} {f : Nat → Int} (h : ∀ j, ad' (p j) = ad (p j)) : cellOf ad' c k p f = cellOf ad c k p f := by
  unfold cellOf fvl rfl9
  simp only [h]
theorem val_ext {ad ad' : Nat → Nat} {κ : KK} {v : PV} (h : ∀ o, o < κ.2.length → ad' o = ad o) (hv : vok κ v) : val ad' v = val ad v := by
  rcases v with x | x | x
  · rfl
  · rfl
  · show Value.ref (ad' x) = Value.ref (ad x)
    rw [h x hv]
theorem vals_ext {ad ad' : Nat → Nat} {κ : KK} {st : List PV} (h : ∀ o, o < κ.2.length → ad' o = ad o) (hv : ∀ v ∈ st, vok κ v) : st.map (val ad') = st.map (val ad) := List.map_congr_left (fun v q => val_ext h (hv v q))
theorem lst_ext {ad ad' : Nat → Nat} {κ : KK} {pl : PL} {ls : Array Slot} {n : Nat} (h : ∀ o, o < κ.2.length → ad' o = ad o) (hv : ∀ v, some v ∈ pl → vok κ v) (hl : lv_has ls n (lst ad pl)) : lv_has ls n (lst ad' pl) := by
  refine ⟨hl.1, hl.2.1, fun q hq => ?_⟩
  obtain ⟨v, h1, h2⟩ := lst_mem.mp hq
  rw [h2, val_ext h (hv v (List.mem_of_getElem? h1))]
  exact lst_has hl h1
theorem vok_mono {κ κ' : KK} {v : PV} (h : κ.2.length ≤ κ'.2.length) (hv : vok κ v) : vok κ' v := by
  rcases v with x | x | x
  · exact hv
  · exact hv
  · exact Nat.lt_of_lt_of_le hv h
theorem newK_len {κ : KK} {a : Nat × Nat} {n : Nat} : (newK κ a n).2.length = κ.2.length + 1 := by simp [newK]
theorem zM_ne {M : MM} {o q : Nat} (h : q ≠ o) : zM M o q = M q := by
  funext j
  simp [zM, h]
theorem zP_ne {P : PM} {o q : Nat} (h : q ≠ o) : zP P o q = P q := by
  funext j
  simp [zP, h]
theorem zM_self {M : MM} {o : Nat} : zM M o o = fun _ => 0 := by
  funext j
  simp [zM]
theorem zP_self {P : PM} {o : Nat} : zP P o o = fun _ => 0 := by
  funext j
  simp [zP]
theorem wsOf_push {ad : Nat → Nat} {cA : Nat → ClassId} {κ : KK} {P : PM} {M : MM} {a : Nat × Nat} {n q : Nat} {c : ClassId} (h1 : 1 ≤ κ.2.length) (hP : Pok κ P) :
    wsOf (adN ad κ.2.length q) (cAN cA κ.2.length c) (newK κ a n) (zP P κ.2.length) (zM M κ.2.length) = wsOf ad cA κ P M ++ [(q, cellOf (adN ad κ.2.length q) c a (fun _ => 0) (fun _ => 0))] := by
  have e1 : (newK κ a n).2.length - 1 = (κ.2.length - 1) + 1 := by rw [newK_len]; omega
  have e2 : κ.2.length - 1 + 1 = κ.2.length := by omega
  unfold wsOf
  rw [e1, List.range_succ, List.map_append]
  congr 1
  · apply List.map_congr_left
    intro i hi
    have hi : i < κ.2.length - 1 := List.mem_range.mp hi
    have hlt : i + 1 < κ.2.length := by omega
    rw [adN_lt hlt, cAN_lt hlt, kd_newK hlt, zP_ne (by omega), zM_ne (by omega), cell_ext (fun j => adN_lt (hP _ _))]
  · simp only [List.map_cons, List.map_nil, e2]
    rw [adN_self, cAN_self, kd_newK_self, zP_self, zM_self]
theorem rngF_0 (t : Nat) : rngF t 0 := by
  unfold rngF r64 r32
  split
  · omega
  · split
    · omega
    · split
      · omega
      · split <;> omega
theorem Inv_new {z : Nat × (Nat → Nat)} {D : va_G} {A : Nat → Prop} {R : Room} {s : State} {ad : Nat → Nat} {cA : Nat → ClassId} {tys tys' : List (ClassId × FieldType)} {κ : KK} {P : PM} {M : MM} {H H1 : Heap} {locs : List Loc} {cells slots : Nat} {a : Nat × Nat} {n q : Nat} {c : ClassId} (I : Inv z D A R s ad cA tys κ P M H locs cells slots) (ha : a.1 ≤ 7 ∧ (a.1 = 0 → a.2 < 12) ∧ a.2 ≤ 100000) (hb1 : 1 ≤ κ.1.1) (hb2 : n ≤ κ.1.2) (hK' : va_K D cls tys' s) (hsub : ∀ x ∈ tys, x ∈ tys') (hme : 1 ≤ a.1 → (c, aty a.1) ∈ tys') (g1 : va_P D cls (wsOf ad cA κ P M ++ [(q, cellOf (adN ad κ.2.length q) c a (fun _ => 0) (fun _ => 0))]) H1) (g2 : va_D A (wsOf ad cA κ P M ++ [(q, cellOf (adN ad κ.2.length q) c a (fun _ => 0) (fun _ => 0))])) (g3 : va_S A s.heap H1 locs) : Inv z D A R s (adN ad κ.2.length q) (cAN cA κ.2.length c) tys' (newK κ a n) (zP P κ.2.length) (zM M κ.2.length) H1 locs (cells + 1) (slots + n) := by
  obtain ⟨hK, hP, hD, hS, hT, hM, hPo, hKo, hcs, hRo⟩ := I
  have h1 := hKo.1.1
  rw [← wsOf_push (n := n) h1 hPo] at g1 g2
  refine ⟨hK', g1, g2, g3, ?_, ?_, ?_, ⟨⟨?_, ?_⟩, ?_⟩, ?_, ?_⟩
  · intro o ho1 ho2 ho3
    rw [newK_len] at ho2
    by_cases e : o = κ.2.length
    · subst e
      rw [kd_newK_self] at ho3 ⊢
      rw [cAN_self]
      exact hme ho3
    · have hlt : o < κ.2.length := by omega
      rw [kd_newK hlt] at ho3 ⊢
      rw [cAN_lt hlt]
      exact hsub _ (hT o ho1 hlt ho3)
  · intro o k ho
    rw [newK_len] at ho
    by_cases e : o = κ.2.length
    · subst e
      rw [zM_self]
      exact rngF_0 _
    · have hlt : o < κ.2.length := by omega
      rw [kd_newK hlt, zM_ne e]
      exact hM o k hlt
  · intro o k
    rw [newK_len]
    by_cases e : o = κ.2.length
    · subst e
      rw [zP_self]
      exact Nat.succ_pos _
    · rw [zP_ne e]
      exact Nat.lt_succ_of_lt (hPo o k)
  · rw [newK_len]; omega
  · rw [kd_newK (by omega)]; exact hKo.1.2
  · intro o ho1 ho2
    rw [newK_len] at ho2
    by_cases e : o = κ.2.length
    · subst e
      rw [kd_newK_self]
      exact ha
    · have hlt : o < κ.2.length := by omega
      rw [kd_newK hlt]
      exact hKo.2 o ho1 hlt
  · have e1 : (newK κ a n).1.1 = κ.1.1 - 1 := rfl
    have e2 : (newK κ a n).1.2 = κ.1.2 - n := rfl
    rw [e1, e2, newK_len]
    refine ⟨by omega, by omega, fun o ho => ?_⟩
    rw [adN_lt (by omega)]
    exact hcs.2.2 o ho
  · intro hk
    rw [kd_newK (by omega)] at hk
    obtain ⟨a1, f, a2, a3⟩ := hRo hk
    rw [adN_lt (by omega)]
    exact ⟨a1, f, a2, fun j hj => by rw [zM_ne (by omega)]; exact a3 j hj⟩
section HN
variable {p : Program} {l : Launch} {e : Env} {R : Room} {s : State} {m : MethodId} {args : Array Value} {below : List Frame} {meth : Method} {c : Code} {mi : Nat} {z : Nat × (Nat → Nat)} {D : va_G} {A : Nat → Prop} {QQ : State → Prop} {E : CR} {Q : QT} {X : XT} {len pc idx : Nat} {pl : PL} {st : List PV} {κ : KK} {P : PM} {M : MM}
/-- what comes behind an allocation -/
theorem new_go {ad : Nat → Nat} {cA : Nat → ClassId} {tys' : List (ClassId × FieldType)} {H1 : Heap} {locs : List Loc} {cells' slots' : Nat} {ls : Array Slot} {a : Nat × Nat} {n q pc' : Nat} {c9 : ClassId} {st1 : List PV}
    (h : Snd p l e R s m args below meth c mi z D A QQ pc' pl (pR κ.2.length :: st1) (newK κ a n) (zP P κ.2.length) (zM M κ.2.length))
    (I' : Inv z D A R s (adN ad κ.2.length q) (cAN cA κ.2.length c9) tys' (newK κ a n) (zP P κ.2.length) (zM M κ.2.length) H1 locs cells' slots') (hl : lv_has ls (mxl mi) (lst ad pl)) (hn : pl.length = mxl mi) (hst : ∀ v ∈ st1, vok κ v) (hpl : ∀ v, some v ∈ pl → vok κ v) :
    W p l e R s m args below meth c H1 locs cells' slots' QQ (F0 m pc' ls (.ref q :: st1.map (val ad))) := by
  have hle : κ.2.length ≤ (newK κ a n).2.length := by rw [newK_len]; omega
  have fin9 := h _ _ _ _ _ _ _ ls I' (lst_ext (fun o ho => adN_lt ho) hpl hl) hn (vk1 (show κ.2.length < (newK κ a n).2.length by rw [newK_len]; omega) (fun v hv => vok_mono hle (hst v hv))) (fun v hv => vok_mono hle (hpl v hv))
  have ev : (pR κ.2.length :: st1).map (val (adN ad κ.2.length q)) = .ref q :: st1.map (val ad) := by
    rw [List.map_cons, vals_ext (fun o ho => adN_lt ho) hst]
    show Value.ref (adN ad κ.2.length q κ.2.length) :: _ = _
    rw [adN_self]
  rw [ev] at fin9
  exact fin9
theorem snd_new (G : Gx p R s m args meth c mi A) (hXq : ∀ κ P M, X κ P M → mow mi = 10 → idx = 157 → ∀ pl st, Snd p l e R s m args below meth c mi z D A QQ pc pl st κ P M) (hd : decode (cod mi) pc = .ok (.new idx, len)) (h : stepP E mi Q X (.new idx) len pc pl st κ P M (Snd p l e R s m args below meth c mi z D A QQ)) : Snd p l e R s m args below meth c mi z D A QQ pc pl st κ P M := by
  obtain ⟨rfl, ⟨hm10, h157, hX9⟩ | ⟨ci, hnt, hb1, hb2, h⟩⟩ := h
  · exact hXq _ _ _ hX9 hm10 h157 _ _
  obtain ⟨hx, hb, hml, hown, hts, hnx, hao, hA, hname, hroom, hmi⟩ := G
  intro ad cA tys H locs cells slots ls I hl hn hst hpl
  obtain ⟨hci, j, hj⟩ := nt_ok hnt
  obtain ⟨hK, hP, hD, hS, hT, hM, hPo, hKo, hcs, hRo⟩ := id I
  obtain ⟨⟨j1, hj1⟩, ⟨j2, hj2⟩, hin, hty, hnm, hft4⟩ := cl_ok hci
  refine va_new (ci := ci) (fs := (List.range (nfl ci)).map (fun j => fvl ad (ftc ci j) 0 0)) hx hb hts hin (fty ci) hty hown (hts _ (in_GW hj rfl)) (hts _ (in_GW hj1 rfl)) (hts _ (in_GW hj2 rfl)) hK hP hD hS hA (cls_at hci) ?_ (by omega) (by omega) hd ?_
  · intro j hjn
    have e9 : vp_V ((List.range (nfl ci)).map (fun j => fvl ad (ftc ci j) 0 0)) j = fvl ad (ftc ci j) 0 0 := by
      simp [vp_V, hjn]
    rw [e9]
    unfold fvl
    rcases hft4 j hjn with ⟨z1, z2⟩ | ⟨z1, z2⟩ | ⟨z1, z2⟩ | ⟨z1, z2⟩
    · rw [z1, z2]; rfl
    · rw [z1, z2]; rfl
    · rw [z1, z2]; rfl
    · rw [z1]
      cases hf : fty ci j <;> rw [hf] at z2 <;> first | (cases z2; done) | rfl
  · intro q H1 g1 g2 g3
    have ec : (Sum.inr (ci, (List.range (nfl ci)).map (fun j => fvl ad (ftc ci j) 0 0)) : va_E) = cellOf (adN ad κ.2.length q) 0 (0, ci) (fun _ => 0) (fun _ => 0) := by
      rw [cell_ext (ad := ad) (fun j => adN_lt hKo.1.1)]
      rfl
    rw [ec] at g1 g2
    exact new_go h (Inv_new (n := nfl ci) I ⟨Nat.zero_le _, fun _ => hci, by omega⟩ hb1 hb2 hK (fun _ h => h) (fun z => absurd z (Nat.not_succ_le_zero 0)) g1 g2 g3) hl hn hst hpl
theorem newa_core (G : Gx p R s m args meth c mi A) {ty : ArrayType} {t : FieldType} {tc : Nat} {n : Int} {st1 : List PV} (htc : atc ty = tc) (ht : newarray.typeOf ty = t) (hat : aty tc = t) (htl : 1 ≤ tc ∧ tc ≤ 5) (hcb : componentBytes t ≤ 8) (hw : Cond.arrayClass t ∈ GW)
    (hcell : ∀ (ad : Nat → Nat) (cA : ClassId), ∃ a0 : vp_A, cellOf ad cA (tc, n.toNat) (fun _ => 0) (fun _ => 0) = .inl (cA, a0) ∧ (∀ c2 : ClassId, vp_cell c2 a0 = arrV c2 n.toNat (fun _ => defaultValue t)) ∧ ∀ c2 : ClassId, cellOf ad c2 (tc, n.toNat) (fun _ => 0) (fun _ => 0) = .inl (c2, a0))
    (hd : decode (cod mi) pc = .ok (.newarray ty, 2)) (hn0 : 0 ≤ n ∧ n ≤ 100000) (hb1 : 1 ≤ κ.1.1) (hb2 : n.toNat ≤ κ.1.2) (h : Snd p l e R s m args below meth c mi z D A QQ (pc + 2) pl (pR κ.2.length :: st1) (newK κ (tc, n.toNat) n.toNat) (zP P κ.2.length) (zM M κ.2.length)) : Snd p l e R s m args below meth c mi z D A QQ pc pl (pI n :: st1) κ P M := by
  obtain ⟨hx, hb, hml, hown, hts, hnx, hao, hA, hname, hroom, hmi⟩ := G
  intro ad cA tys H locs cells slots ls I hl hn hst hpl
  obtain ⟨hK, hP, hD, hS, hT, hM, hPo, hKo, hcs, hRo⟩ := id I
  have hr : r32 n := vhI hst
  obtain ⟨a0, hc1, hc2, hc3⟩ := hcell ad 0
  refine va_newa (n := Int32.ofInt n) (N' := n.toNat) (a0 := a0) hx hb (by rw [ht]; exact hts _ hw) ht hK hP hD hS hA hc2 (by rw [oI_lt0 hr]; omega) (oI_nat hr) ?_ (by omega) (by omega) hd ?_
  · exact Nat.le_trans (Nat.mul_le_mul (show n.toNat ≤ 100000 by omega) hcb) (by decide)
  · intro q c9 H1 k1 g1 g2 g3
    have ec : (Sum.inl (c9, a0) : va_E) = cellOf (adN ad κ.2.length q) c9 (tc, n.toNat) (fun _ => 0) (fun _ => 0) := by
      rw [cell_ext (ad := ad) (fun j => adN_lt hKo.1.1), hc3]
    rw [ec] at g1 g2
    refine new_go h (Inv_new (n := n.toNat) I ⟨by show tc ≤ 7; omega, fun z => absurd (show tc = 0 from z) (by omega), by show n.toNat ≤ 100000; omega⟩ hb1 hb2 k1 (fun _ h => List.mem_append_left _ h) (fun _ => ?_) g1 g2 g3) hl hn (vt1 hst) hpl
    show (c9, aty tc) ∈ _
    rw [hat]
    exact List.mem_append_right _ List.mem_cons_self
theorem snd_newa (G : Gx p R s m args meth c mi A) {ty : ArrayType} (hd : decode (cod mi) pc = .ok (.newarray ty, len)) (h : stepP E mi Q X (.newarray ty) len pc pl st κ P M (Snd p l e R s m args below meth c mi z D A QQ)) : Snd p l e R s m args below meth c mi z D A QQ pc pl st κ P M := by
  obtain ⟨rfl, n, st1, rfl, ⟨ht, hn0⟩, hb1, hb2, h⟩ := h
  cases ty
  all_goals first
    | exact absurd ht (by decide)
    | exact newa_core G rfl rfl rfl ⟨by decide, by decide⟩ (by decide) (in_GW (i := 206) (by decide +kernel) rfl) (fun ad cA => ⟨_, rfl, fun _ => rfl, fun _ => rfl⟩) hd hn0 hb1 hb2 h
    | exact newa_core G rfl rfl rfl ⟨by decide, by decide⟩ (by decide) (in_GW (i := 297) (by decide +kernel) rfl) (fun ad cA => ⟨_, rfl, fun _ => rfl, fun _ => rfl⟩) hd hn0 hb1 hb2 h
    | exact newa_core G rfl rfl rfl ⟨by decide, by decide⟩ (by decide) (in_GW (i := 1360) (by decide +kernel) rfl) (fun ad cA => ⟨_, rfl, fun _ => rfl, fun _ => rfl⟩) hd hn0 hb1 hb2 h
    | exact newa_core G rfl rfl rfl ⟨by decide, by decide⟩ (by decide) (in_GW (i := 205) (by decide +kernel) rfl) (fun ad cA => ⟨_, rfl, fun _ => rfl, fun _ => rfl⟩) hd hn0 hb1 hb2 h
    | exact newa_core G rfl rfl rfl ⟨by decide, by decide⟩ (by decide) (in_GW (i := 322) (by decide +kernel) rfl) (fun ad cA => ⟨_, rfl, fun _ => rfl, fun _ => rfl⟩) hd hn0 hb1 hb2 h
theorem newq_core (G : Gx p R s m args meth c mi A) {C : String} {tc ci : Nat} {n : Int} {st1 : List PV} (htc : tc = 6 ∨ tc = 7) (hC : aty tc = .object C) (hCn : (crow ci).1 = C) (hao9 : va_AO C s) (hnt : NT (mow mi) idx = some ci)
    (hd : decode (cod mi) pc = .ok (.anewarray idx, 3)) (hn0 : 0 ≤ n ∧ n ≤ 100000) (hb1 : 1 ≤ κ.1.1) (hb2 : n.toNat ≤ κ.1.2) (h : Snd p l e R s m args below meth c mi z D A QQ (pc + 3) pl (pR κ.2.length :: st1) (newK κ (tc, n.toNat) n.toNat) (zP P κ.2.length) (zM M κ.2.length)) : Snd p l e R s m args below meth c mi z D A QQ pc pl (pI n :: st1) κ P M := by
  obtain ⟨hx, hb, hml, hown, hts, hnx, hao, hA, hname, hroom, hmi⟩ := G
  intro ad cA tys H locs cells slots ls I hl hn hst hpl
  obtain ⟨hK, hP, hD, hS, hT, hM, hPo, hKo, hcs, hRo⟩ := id I
  obtain ⟨hci, j, hj⟩ := nt_ok hnt
  rw [hCn] at hj
  have hr : r32 n := vhI hst
  refine va_newq (n := Int32.ofInt n) (N' := n.toNat) (C := C) hx hb hown (hts _ (in_GW hj rfl)) hao9 hK hP hD hS hA (by rw [oI_lt0 hr]; omega) (oI_nat hr) (by omega) (by omega) (by omega) hd ?_
  intro q c9 H1 k1 g1 g2 g3
  have ec : (Sum.inl (c9, n.toNat, .inr (.inr (.inr (.inr (fun _ => none))))) : va_E) = cellOf (adN ad κ.2.length q) c9 (tc, n.toNat) (fun _ => 0) (fun _ => 0) := by
    rw [cell_q htc]
    rfl
  rw [ec] at g1 g2
  refine new_go h (Inv_new (n := n.toNat) I ⟨by show tc ≤ 7; omega, fun z => absurd (show tc = 0 from z) (by omega), by show n.toNat ≤ 100000; omega⟩ hb1 hb2 k1 (fun _ h => List.mem_append_left _ h) (fun _ => ?_) g1 g2 g3) hl hn (vt1 hst) hpl
  show (c9, aty tc) ∈ _
  rw [hC]
  exact List.mem_append_right _ List.mem_cons_self
theorem snd_newq (G : Gx p R s m args meth c mi A) (hd : decode (cod mi) pc = .ok (.anewarray idx, len)) (h : stepP E mi Q X (.anewarray idx) len pc pl st κ P M (Snd p l e R s m args below meth c mi z D A QQ)) : Snd p l e R s m args below meth c mi z D A QQ pc pl st κ P M := by
  obtain ⟨rfl, n, st1, rfl, t, ⟨hnt, rfl⟩ | ⟨hnt, rfl⟩, hn0, hb1, hb2, h⟩ := h
  · exact newq_core G (Or.inl rfl) rfl rfl G.2.2.2.2.2.2.1.1 hnt hd hn0 hb1 hb2 h
  · exact newq_core G (Or.inr rfl) rfl rfl G.2.2.2.2.2.2.1.2 hnt hd hn0 hb1 hb2 h
end HN
