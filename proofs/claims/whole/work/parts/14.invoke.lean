/-! the three invoke instructions -/
theorem popA_inv : ∀ (n : Nat) (acc st : List PV) (K : List PV → List PV → Prop), popA n acc st K → ∃ xs st', st = xs ++ st' ∧ xs.length = n ∧ K (xs.reverse ++ acc) st'
  | 0, acc, st, K, h => ⟨[], st, rfl, rfl, h⟩
  | n + 1, acc, [], K, h => h.elim
  | n + 1, acc, v :: st, K, h => by
    obtain ⟨xs, st', h1, h2, h3⟩ := popA_inv n (v :: acc) st K h
    refine ⟨v :: xs, st', by rw [h1]; rfl, by simp [h2], ?_⟩
    rw [List.reverse_cons, List.append_assoc]
    exact h3
theorem own_crow {ci : Nat} (h : ci < 12) : (crow ci).1 = ownN ci := by
  have hz : (List.range 12).all (fun q => decide ((crow q).1 = ownN q)) = true := by decide +kernel
  have := List.all_eq_true.mp hz ci (List.mem_range.mpr h)
  simpa using this
theorem gi_cons {w : Cond} {ws : List Cond} (h : w ∈ GW) (hs : GoodIn GW ws) : GoodIn GW (w :: ws) := by
  intro x hx
  rcases List.mem_cons.mp hx with rfl | hx
  · exact ⟨h, GW_good _ h⟩
  · exact hs x hx
section HI
variable {p : Program} {l : Launch} {e : Env} {R : Room} {s : State} {m : MethodId} {args : Array Value} {below : List Frame} {meth : Method} {c : Code} {mi d : Nat} {z : Nat × (Nat → Nat)} {D : va_G} {A : Nat → Prop} {QQ : State → Prop} {E : CR} {Q : QT} {X : XT} {len pc idx : Nat} {pl : PL} {st : List PV} {κ : KK} {P : PM} {M : MM}
theorem inst_go (G : Gx p R s m args meth c mi A) (hR : d + 2 ≤ R.frames ∧ 120 + 60 * d ≤ R.locals) {cc y : Nat} (hct : CTb (mow mi) idx = some (cc, y)) (hcc : cc < 2) (hd : decode (cod mi) pc = .ok (.invokevirtual idx, 3)) {o : Nat} {as st1 : List PV} (has : (pR o :: as).length = nar y + 1) (hko : kd κ o = (0, mow y)) (hs4 : scat st1 ≤ 8) {b : Nat × Nat} {r : Option PV} {κ' : KK} {P' : PM} {M' : MM} (hb9 : b.1 ≤ κ.1.1 ∧ b.2 ≤ κ.1.2) (hM : Ctr l d y (pR o :: as) (b, κ.2) P M r κ' P' M') (h : Snd p l e R s m args below meth c mi z D A QQ (pc + 3) pl (r.toList ++ st1) ((κ.1.1 - b.1, κ.1.2 - b.2), κ'.2) P' M') : Snd p l e R s m args below meth c mi z D A QQ pc pl ((pR o :: as).reverse ++ st1) κ P M := by
  intro ad cA tys H locs cells slots ls I hl hn hst hpl
  obtain ⟨hx, hb, hml, hown, hts, hnx, hao, hA, hname, hroom, hmi⟩ := id G
  obtain ⟨hK, hP, hD, hS, hT, hMo, hPo, hKo, hcs, hRo⟩ := id I
  obtain ⟨hy, hc10, ⟨j, hj⟩, hv, _, _⟩ := k_ok hct
  obtain ⟨hv1, hv2, hv3⟩ := hv hcc
  obtain ⟨f1, f2, f3, f4, f5, f6⟩ := m_facts hy
  obtain ⟨f51, f52⟩ := f5 (by omega)
  have hvas : ∀ v ∈ pR o :: as, vok κ v := fun v hv => hst v (List.mem_append_left _ (List.mem_reverse.mpr hv))
  have hvst : ∀ v ∈ st1, vok κ v := fun v hv => hst v (List.mem_append_right _ hv)
  have ho : o ≠ 0 := k_ne0 hKo hko (by decide)
  have hrecv := va_recv hK hP (cls_at hv3) (ws_obj (ad := ad) (cA := cA) (P := P) (M := M) ho hko)
  have hCn : (mN y).cls = (crow (mow y)).1 := (own_crow hv3).symm
  have hstk : ((pR o :: as).reverse ++ st1).map (val ad) = (as.map (val ad)).reverse ++ .ref (ad o) :: st1.map (val ad) := by
    simp [val]
  have hwk : lw_tbl[j]? = some (if cc % 2 = 0 then Cond.methodLink (ownN (mow mi)) idx (mN y) else Cond.methodLinkNest (ownN (mow mi)) idx (mN y) "BuriedWithIt") := by
    rw [hj]
    unfold kLk
    rw [if_pos (show cc < 6 by omega)]
  have hml9 := mxl_le hy
  have hrm : (rmD d b.1 b.2).frames + 1 ≤ R.frames ∧ 8 + (mxl y + 11) + (rmD d b.1 b.2).locals ≤ R.locals := ⟨hR.1, by show 8 + (mxl y + 11) + (60 + 60 * d) ≤ R.locals; omega⟩
  rw [hstk]
  refine call_go (st1 := st1) (a9 := (Value.ref (ad o) :: as.map (val ad)).toArray) G I hb9 ?_ hl hn hvst hpl h
  by_cases h0 : cc % 2 = 0
  · rw [if_pos h0] at hwk
    refine va_runV (C := (mN y).cls) (Ts := GW) (nL := mxl mi) (n := nar y) (As := as.map (val ad)) ⟨hx, hb, hml, hown, hts⟩ (hM hy D ad cA tys H.size) (cwV (nar y) hts (gi_cons (in_GW hwk rfl) (gi_cons f51 (gi_cons (f52 hv2) (gi_cons f1 (wsM_good (mi := mi) hy))))) rfl rfl rfl ⟨rfl, f2.1, f2.2, f6⟩ hrm) ⟨PcM_blind, by rw [hCn]; exact hrecv, fun U hU hW => call_pre (b := b) G I hvas U hU hW⟩ rfl (by simpa using has) hl.1 rfl (lv_room (Nat.le_trans (sumcat st1) (by omega))) hd ⟨by omega, by omega⟩
  · rw [if_neg h0] at hwk
    refine va_runVN (C := (mN y).cls) (Ts := GW) (nL := mxl mi) (n := nar y) (As := as.map (val ad)) ⟨hx, hb, hml, hown, hts⟩ (hM hy D ad cA tys H.size) ⟨va_cnB (nar y) hts (wsM_good (mi := mi) hy) rfl rfl rfl (hnx _ (List.mem_of_getElem? hwk) rfl) (hts _ f1) ⟨f2.1, f2.2, f6⟩ hrm, hts _ f51, hts _ (f52 hv2)⟩ ⟨PcM_blind, by rw [hCn]; exact hrecv, fun U hU hW => call_pre (b := b) G I hvas U hU hW⟩ rfl (by simpa using has) hl.1 rfl (lv_room (Nat.le_trans (sumcat st1) (by omega))) hd ⟨by omega, by omega⟩
theorem stat_go (G : Gx p R s m args meth c mi A) (hR : d + 2 ≤ R.frames ∧ 120 + 60 * d ≤ R.locals) {cc y : Nat} (hct : CTb (mow mi) idx = some (cc, y)) (hcc : 2 ≤ cc ∧ cc < 4) (hd : decode (cod mi) pc = .ok (.invokestatic idx, 3)) {as st1 : List PV} (has : as.length = nar y) (hs4 : scat st1 ≤ 8) {b : Nat × Nat} {r : Option PV} {κ' : KK} {P' : PM} {M' : MM} (hb9 : b.1 ≤ κ.1.1 ∧ b.2 ≤ κ.1.2) (hM : Ctr l d y as (b, κ.2) P M r κ' P' M') (h : Snd p l e R s m args below meth c mi z D A QQ (pc + 3) pl (r.toList ++ st1) ((κ.1.1 - b.1, κ.1.2 - b.2), κ'.2) P' M') : Snd p l e R s m args below meth c mi z D A QQ pc pl (as.reverse ++ st1) κ P M := by
  intro ad cA tys H locs cells slots ls I hl hn hst hpl
  obtain ⟨hx, hb, hml, hown, hts, hnx, hao, hA, hname, hroom, hmi⟩ := id G
  obtain ⟨hK, hP, hD, hS, hT, hMo, hPo, hKo, hcs, hRo⟩ := id I
  obtain ⟨hy, hc10, ⟨j, hj⟩, _, hv, _⟩ := k_ok hct
  have hv1 := hv hcc.1 hcc.2
  obtain ⟨f1, f2, f3, f4, f5, f6⟩ := m_facts hy
  have hvas : ∀ v ∈ as, vok κ v := fun v hv => hst v (List.mem_append_left _ (List.mem_reverse.mpr hv))
  have hvst : ∀ v ∈ st1, vok κ v := fun v hv => hst v (List.mem_append_right _ hv)
  have hstk : (as.reverse ++ st1).map (val ad) = (as.map (val ad)).reverse ++ st1.map (val ad) := by
    simp
  have hwk : lw_tbl[j]? = some (if cc % 2 = 0 then Cond.methodLink (ownN (mow mi)) idx (mN y) else Cond.methodLinkNest (ownN (mow mi)) idx (mN y) "BuriedWithIt") := by
    rw [hj]
    unfold kLk
    rw [if_pos (show cc < 6 by omega)]
  have hml9 := mxl_le hy
  have hrm : (rmD d b.1 b.2).frames + 1 ≤ R.frames ∧ 8 + (mxl y + 11) + (rmD d b.1 b.2).locals ≤ R.locals := ⟨hR.1, by show 8 + (mxl y + 11) + (60 + 60 * d) ≤ R.locals; omega⟩
  rw [hstk]
  refine call_go (st1 := st1) (a9 := (as.map (val ad)).toArray) G I hb9 ?_ hl hn hvst hpl h
  by_cases h0 : cc % 2 = 0
  · rw [if_pos h0] at hwk
    refine va_runS (Ts := GW) (nL := mxl mi) (n := nar y) (As := as.map (val ad)) ⟨hx, hb, hml, hown, hts⟩ (hM hy D ad cA tys H.size) (va_cwS (nar y) hts (gi_cons (in_GW hwk rfl) (gi_cons (f4 hv1) (gi_cons f1 (wsM_good (mi := mi) hy)))) rfl rfl rfl ⟨f2.1, f2.2, f6⟩ hrm) ⟨PcM_blind, fun U hU hW => call_pre (b := b) G I hvas U hU hW⟩ rfl (by simpa using has) hl.1 rfl (lv_room (Nat.le_trans (sumcat st1) (by omega))) hd ⟨by omega, by omega⟩
  · rw [if_neg h0] at hwk
    refine va_runSN (Ts := GW) (nL := mxl mi) (n := nar y) (As := as.map (val ad)) ⟨hx, hb, hml, hown, hts⟩ (hM hy D ad cA tys H.size) ⟨va_cnB (nar y) hts (wsM_good (mi := mi) hy) rfl rfl rfl (hnx _ (List.mem_of_getElem? hwk) rfl) (hts _ f1) ⟨f2.1, f2.2, f6⟩ hrm, hts _ (f4 hv1), trivial⟩ ⟨PcM_blind, fun U hU hW => call_pre (b := b) G I hvas U hU hW⟩ rfl (by simpa using has) hl.1 rfl (lv_room (Nat.le_trans (sumcat st1) (by omega))) hd ⟨by omega, by omega⟩
theorem init_go (G : Gx p R s m args meth c mi A) (hR : d + 2 ≤ R.frames ∧ 120 + 60 * d ≤ R.locals) {cc y : Nat} (hct : CTb (mow mi) idx = some (cc, y)) (hcc : 4 ≤ cc ∧ cc < 6) (hd : decode (cod mi) pc = .ok (.invokespecial idx, 3)) {o : Nat} {as st1 : List PV} (has : (pR o :: as).length = nar y + 1) (hs4 : scat st1 ≤ 8) {b : Nat × Nat} {r : Option PV} {κ' : KK} {P' : PM} {M' : MM} (hb9 : b.1 ≤ κ.1.1 ∧ b.2 ≤ κ.1.2) (hM : Ctr l d y (pR o :: as) (b, κ.2) P M r κ' P' M') (h : Snd p l e R s m args below meth c mi z D A QQ (pc + 3) pl (r.toList ++ st1) ((κ.1.1 - b.1, κ.1.2 - b.2), κ'.2) P' M') : Snd p l e R s m args below meth c mi z D A QQ pc pl ((pR o :: as).reverse ++ st1) κ P M := by
  intro ad cA tys H locs cells slots ls I hl hn hst hpl
  obtain ⟨hx, hb, hml, hown, hts, hnx, hao, hA, hname, hroom, hmi⟩ := id G
  obtain ⟨hK, hP, hD, hS, hT, hMo, hPo, hKo, hcs, hRo⟩ := id I
  obtain ⟨hy, hc10, ⟨j, hj⟩, _, _, hv⟩ := k_ok hct
  obtain ⟨hv1, hv2, hv3⟩ := hv hcc.1 hcc.2
  obtain ⟨f1, f2, f3, f4, f5, f6⟩ := m_facts hy
  obtain ⟨f51, f52⟩ := f5 (by omega)
  have hvas : ∀ v ∈ pR o :: as, vok κ v := fun v hv => hst v (List.mem_append_left _ (List.mem_reverse.mpr hv))
  have hvst : ∀ v ∈ st1, vok κ v := fun v hv => hst v (List.mem_append_right _ hv)
  have hstk : ((pR o :: as).reverse ++ st1).map (val ad) = (as.map (val ad)).reverse ++ .ref (ad o) :: st1.map (val ad) := by
    simp [val]
  have hwk : lw_tbl[j]? = some (if cc % 2 = 0 then Cond.methodLink (ownN (mow mi)) idx (mN y) else Cond.methodLinkNest (ownN (mow mi)) idx (mN y) "BuriedWithIt") := by
    rw [hj]
    unfold kLk
    rw [if_pos (show cc < 6 by omega)]
  have hml9 := mxl_le hy
  have hrm : (rmD d b.1 b.2).frames + 1 ≤ R.frames ∧ 8 + (mxl y + 11) + (rmD d b.1 b.2).locals ≤ R.locals := ⟨hR.1, by show 8 + (mxl y + 11) + (60 + 60 * d) ≤ R.locals; omega⟩
  have hws : wsM y = Cond.code (mN y) (cod y) (mxl y) none :: GW := by unfold wsM; rw [hv3]
  rw [hstk]
  refine call_go (st1 := st1) (a9 := (Value.ref (ad o) :: as.map (val ad)).toArray) G I hb9 ?_ hl hn hvst hpl h
  by_cases h0 : cc % 2 = 0
  · rw [if_pos h0] at hwk
    refine va_runI (Ts := GW) (nL := mxl mi) (n := nar y) (As := as.map (val ad)) ⟨hx, hb, hml, hown, hts⟩ (hM hy D ad cA tys H.size) (cwI (nar y) hts (wsM_good (mi := mi) hy) hws rfl rfl (hts _ f1) (hts _ (in_GW hwk rfl)) (hts _ f51) hv2 ⟨f2.1, f2.2, f6⟩ hrm) ⟨PcM_blind, fun U hU hW => call_pre (b := b) G I hvas U hU hW⟩ rfl (by simpa using has) hl.1 rfl (lv_room (Nat.le_trans (sumcat st1) (by omega))) hd ⟨by omega, by omega⟩
  · rw [if_neg h0] at hwk
    refine va_runIN (Ts := GW) (nL := mxl mi) (n := nar y) (As := as.map (val ad)) ⟨hx, hb, hml, hown, hts⟩ (hM hy D ad cA tys H.size) ⟨va_cnB (nar y) hts (wsM_good (mi := mi) hy) hws rfl rfl (hnx _ (List.mem_of_getElem? hwk) rfl) (hts _ f1) ⟨f2.1, f2.2, f6⟩ hrm, hv2, hts _ f51⟩ ⟨PcM_blind, fun U hU hW => call_pre (b := b) G I hvas U hU hW⟩ rfl (by simpa using has) hl.1 rfl (lv_room (Nat.le_trans (sumcat st1) (by omega))) hd ⟨by omega, by omega⟩
end HI
