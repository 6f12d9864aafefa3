/-! the instructions on fields and arrays -/
theorem k_ne0 {κ : KK} {o a b : Nat} (hK : Kok κ) (h : kd κ o = (a, b)) (ha : a < 9) : o ≠ 0 := by
  rintro rfl
  have q := hK.1.2
  rw [h] at q
  cases q
  omega
theorem k1_ne0 {κ : KK} {o a : Nat} (hK : Kok κ) (h : (kd κ o).1 = a) (ha : a < 9) : o ≠ 0 := k_ne0 (b := (kd κ o).2) hK (by rw [← h]) ha
theorem Ro_u {A : Nat → Prop} {ad : Nat → Nat} {κ : KK} {M : MM} {s : State} {o k : Nat} {v : Int} (h : Ro A ad κ M s) (h0 : o ≠ 0) : Ro A ad κ (uM M o k v) s := by
  intro hk
  obtain ⟨h1, f, h2, h3⟩ := h hk
  exact ⟨h1, f, h2, fun j hj => by rw [uM_ne (Ne.symm h0)]; exact h3 j hj⟩
section HO
variable {p : Program} {l : Launch} {e : Env} {R : Room} {s : State} {m : MethodId} {args : Array Value} {below : List Frame} {meth : Method} {c : Code} {mi : Nat} {z : Nat × (Nat → Nat)} {D : va_G} {A : Nat → Prop} {QQ : State → Prop} {E : CR} {Q : QT} {X : XT} {len pc idx : Nat} {pl : PL} {st : List PV} {κ : KK} {P : PM} {M : MM}
theorem snd_get (G : Gx p R s m args meth c mi A) (hd : decode (cod mi) pc = .ok (.getfield idx, len)) (h : stepP E mi Q X (.getfield idx) len pc pl st κ P M (Snd p l e R s m args below meth c mi z D A QQ)) : Snd p l e R s m args below meth c mi z D A QQ pc pl st κ P M := by
  obtain ⟨hx, hb, hml, hown, hts, hnx, hao, hA, hname, hroom, hmi⟩ := G
  obtain ⟨rfl, o, st1, rfl, ci, k, t, hft, hk, hp, h⟩ := h
  intro ad cA tys H locs cells slots ls I hl hn hst hpl
  obtain ⟨hci, hkn, rfl, hlk⟩ := ft_ok hft
  obtain ⟨hK, hP, hD, hS, hT, hM, hPo, hKo, hcs, hRo⟩ := id I
  obtain ⟨_, _, hin, hty, hnm, hft4⟩ := cl_ok hci
  have h0 : o ≠ 0 := k_ne0 hKo hk (by decide)
  have he := ws_obj (ad := ad) (cA := cA) (P := P) (M := M) h0 hk
  have hv : ((List.range (nfl ci)).map (fun j => fvl ad (ftc ci j) (P o j) (M o j)))[k]? = some (val ad (fvp (ftc ci k) (P o k) (M o k))) := by
    simp [hkn, fvl_val hp]
  have fin9 := h ad cA tys H locs cells slots ls I hl hn (vk1 (fv_ok hM hPo hk) (vt1 hst)) hpl
  rcases hlk with ⟨j, hj⟩ | ⟨_, j, hj⟩
  · exact va_get hx hb hts hin hown hK hP (o - 1) he (cls_at hci) k hkn (hts _ (in_GW hj rfl)) (fun _ q => q) hv hd fin9
  · exact va_getN hx hb hts hin hown hK hP (o - 1) he (cls_at hci) k hkn (va_Nw.use rfl (hnx _ (List.mem_of_getElem? hj) rfl)) (fun _ q => q) hv hd fin9
theorem put_core (G : Gx p R s m args meth c mi A) {ci k t o : Nat} {v : PV} {st2 : List PV} {P2 : PM} {M2 : MM} (hd : decode (cod mi) pc = .ok (.putfield idx, 3)) (hft : FT (mow mi) idx = some (ci, k, t)) (hk : kd κ o = (0, ci)) (hfin : fin ci k = false ∨ ((mrow mi).2.1 = "<init>" ∧ mow mi = ci))
    {ad : Nat → Nat} {cA : Nat → ClassId} {tys : List (ClassId × FieldType)} {H : Heap} {locs : List Loc} {cells slots : Nat} {ls : Array Slot} (I : Inv z D A R s ad cA tys κ P M H locs cells slots)
    (hnf : narrow (fty ci k) (val ad v) = val ad v ∧ fits (fty ci k) (val ad v) = true) (hP2 : ∀ q, q ≠ o → P2 q = P q) (hM2 : ∀ q, q ≠ o → M2 q = M q) (hP3 : ∀ j, j ≠ k → P2 o j = P o j) (hM3 : ∀ j, j ≠ k → M2 o j = M o j) (hv : fvl ad (ftc ci k) (P2 o k) (M2 o k) = val ad v) (hMo : Mok κ M2) (hPo : Pok κ P2)
    (h : ∀ H1 locs1, Inv z D A R s ad cA tys κ P2 M2 H1 locs1 cells slots → W p l e R s m args below meth c H1 locs1 cells slots QQ (F0 m (pc + 3) ls (st2.map (val ad)))) : W p l e R s m args below meth c H locs cells slots QQ (F0 m pc ls (val ad v :: .ref (ad o) :: st2.map (val ad))) := by
  obtain ⟨hx, hb, hml, hown, hts, hnx, hao, hA, hname, hroom, hmi⟩ := G
  obtain ⟨hci, hkn, rfl, hlk⟩ := ft_ok hft
  obtain ⟨hK, hP, hD, hS, hT, hM, hPo0, hKo, hcs, hRo⟩ := id I
  obtain ⟨_, _, hin, hty, hnm, hft4⟩ := cl_ok hci
  have h0 : o ≠ 0 := k_ne0 hKo hk (by decide)
  have he := ws_obj (ad := ad) (cA := cA) (P := P) (M := M) h0 hk
  have hlen : k < ((List.range (nfl ci)).map (fun j => fvl ad (ftc ci j) (P o j) (M o j))).length := by simp [hkn]
  have key : (wsOf ad cA κ P M).set (o - 1) (ad o, .inr (ci, ((List.range (nfl ci)).map (fun j => fvl ad (ftc ci j) (P o j) (M o j))).set k (val ad v))) = wsOf ad cA κ P2 M2 := by
    refine wsOf_set (by omega) hP2 hM2 ?_
    rw [hk, fs_set hP3 hM3 hv]
    rfl
  have fin9 : ∀ (H1 : Heap) (locs1 : List Loc), va_P D cls ((wsOf ad cA κ P M).set (o - 1) (ad o, .inr (ci, ((List.range (nfl ci)).map (fun j => fvl ad (ftc ci j) (P o j) (M o j))).set k (val ad v)))) H1 → va_D A ((wsOf ad cA κ P M).set (o - 1) (ad o, .inr (ci, ((List.range (nfl ci)).map (fun j => fvl ad (ftc ci j) (P o j) (M o j))).set k (val ad v)))) → va_S A s.heap H1 locs1 → W p l e R s m args below meth c H1 locs1 cells slots QQ (F0 m (pc + 3) ls (st2.map (val ad))) := by
    intro H1 locs1 g1 g2 g3
    rw [key] at g1 g2
    refine h H1 locs1 ⟨hK, g1, g2, g3, hT, hMo, hPo, hKo, hcs, fun q => ?_⟩
    obtain ⟨a1, f, a2, a3⟩ := hRo q
    exact ⟨a1, f, a2, fun j hj => by rw [hM2 0 (Ne.symm h0)]; exact a3 j hj⟩
  by_cases hf : fin ci k = false
  · rcases hlk with ⟨j, hj⟩ | ⟨_, j, hj⟩
    · exact va_put hx hb hts hin (fty ci) hty hnm hown hK hP hD hS (o - 1) he (cls_at hci) k hkn (hts _ (in_GW hj rfl)) (fun _ q => q) hf (hty k hkn) hnf.1 hnf.2 hlen hd fin9
    · exact va_putN hx hb hts hin (fty ci) hty hnm hown hK hP hD hS (o - 1) he (cls_at hci) k hkn (va_Nw.use rfl (hnx _ (List.mem_of_getElem? hj) rfl)) (fun _ q => q) hf (hty k hkn) hnf.1 hnf.2 hlen hd fin9
  · obtain ⟨hi1, hi2⟩ := hfin.resolve_left hf
    rcases hlk with ⟨j, hj⟩ | ⟨hne, _⟩
    · have hdecl : (cT ci k).1 = ownN (mow mi) := by
        rw [hi2]
        have hz : (List.range 12).all (fun q => decide ((crow q).1 = ownN q)) = true := by decide +kernel
        have := List.all_eq_true.mp hz ci (List.mem_range.mpr hci)
        simpa [cT] using this
      exact va_putF hx hb hts hin (fty ci) hty hnm hown hK hP hD hS (o - 1) he (cls_at hci) k hkn (hts _ (in_GW hj rfl)) (fun _ q => q) (show fin ci k = true by simpa using hf) (by rw [hname]; exact hi1) hdecl (hty k hkn) hnf.1 hnf.2 hlen hd fin9
    · exact absurd hi2 hne
theorem snd_put (G : Gx p R s m args meth c mi A) (hd : decode (cod mi) pc = .ok (.putfield idx, len)) (h : stepP E mi Q X (.putfield idx) len pc pl st κ P M (Snd p l e R s m args below meth c mi z D A QQ)) : Snd p l e R s m args below meth c mi z D A QQ pc pl st κ P M := by
  obtain ⟨rfl, v, st1, rfl, o, st2, rfl, ci, k, t, hft, hk, hfin, h⟩ := h
  intro ad cA tys H locs cells slots ls I hl hn hst hpl
  obtain ⟨hci, hkn, ht, hlk⟩ := ft_ok hft
  obtain ⟨hK, hP, hD, hS, hT, hM, hPo, hKo, hcs, hRo⟩ := id I
  obtain ⟨_, _, hin, hty, hnm, hft4⟩ := cl_ok hci
  have h4 := hft4 k hkn
  have hol := kd_lt hk (by decide)
  have etk : tyk (kd κ o) k = ftc ci k := by rw [hk]; rfl
  rcases v with x | x | x
  · obtain ⟨hx1, h⟩ := h
    have hr : r32 x := vhI hst
    refine put_core (P2 := P) (M2 := uM M o k x) (v := pI x) (st2 := st2) G hd hft hk hfin I ?_ (fun _ _ => rfl) (fun q hq => uM_ne hq) (fun _ _ => rfl) (fun j hj => by rw [uM_self]; simp [hj]) ?_ ?_ hPo (fun H1 locs1 I1 => h ad cA tys H1 locs1 cells slots ls I1 hl hn (vt1 (vt1 hst)) hpl)
    · rw [ht] at hx1
      rcases hx1 with q | ⟨q, q2⟩
      · have e2 : fty ci k = .int := by
          rcases h4 with ⟨_, z⟩ | ⟨z, _⟩ | ⟨z, _⟩ | ⟨z, _⟩ <;> first | exact z | omega
        rw [e2]
        exact ⟨rfl, rfl⟩
      · have e2 : fty ci k = .boolean := by
          rcases h4 with ⟨z, _⟩ | ⟨_, z⟩ | ⟨z, _⟩ | ⟨z, _⟩ <;> first | exact z | omega
        rw [e2]
        rcases q2 with rfl | rfl <;> exact ⟨rfl, rfl⟩
    · rw [uM_self]
      unfold fvl
      rw [if_neg (by rw [ht] at hx1; omega), if_neg (by rw [ht] at hx1; omega)]
      simp [val]
    · refine Mok_u hM ?_
      rw [etk, ← ht]
      unfold rngF
      rcases hx1 with q | ⟨q, q2⟩
      · subst q
        rw [if_neg (by decide), if_neg (by decide), if_neg (by decide), if_neg (by decide)]
        exact hr
      · subst q
        rw [if_neg (by decide), if_pos rfl]
        exact q2
  · obtain ⟨hx1, h⟩ := h
    have hr : r64 x := vhL hst
    rw [ht] at hx1
    refine put_core (P2 := P) (M2 := uM M o k x) (v := pL x) (st2 := st2) G hd hft hk hfin I ?_ (fun _ _ => rfl) (fun q hq => uM_ne hq) (fun _ _ => rfl) (fun j hj => by rw [uM_self]; simp [hj]) ?_ ?_ hPo (fun H1 locs1 I1 => h ad cA tys H1 locs1 cells slots ls I1 hl hn (vt1 (vt1 hst)) hpl)
    · have e2 : fty ci k = .long := by
        rcases h4 with ⟨z, _⟩ | ⟨z, _⟩ | ⟨_, z⟩ | ⟨z, _⟩ <;> first | exact z | omega
      rw [e2]
      exact ⟨rfl, rfl⟩
    · rw [uM_self]
      unfold fvl
      rw [if_neg (by omega), if_pos hx1]
      simp [val]
    · refine Mok_u hM ?_
      rw [etk, hx1]
      exact hr
  · obtain ⟨hx1, hx2, h⟩ := h
    have hr : x < κ.2.length := vh1 hst
    rw [ht] at hx1
    refine put_core (P2 := uP P o k x) (M2 := M) (v := pR x) (st2 := st2) G hd hft hk hfin I ?_ (fun q hq => uP_ne hq) (fun _ _ => rfl) (fun j hj => by rw [uP_self]; simp [hj]) (fun _ _ => rfl) ?_ hM (Pok_u hPo hr) (fun H1 locs1 I1 => h ad cA tys H1 locs1 cells slots ls I1 hl hn (vt1 (vt1 hst)) hpl)
    · have e2 : isRty (fty ci k) = true := by
        rcases h4 with ⟨z, _⟩ | ⟨z, _⟩ | ⟨z, _⟩ | ⟨_, z⟩ <;> first | exact z | omega
      exact narrow_ref e2 _
    · rw [uP_self]
      unfold fvl
      rw [if_pos hx1]
      simp [val, hx2]
end HO
