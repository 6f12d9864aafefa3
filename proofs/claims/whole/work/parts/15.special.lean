/-! Object's constructor, Math's max, min, abs, arraycopy; all calls together -/
set_option maxRecDepth 100000 in
theorem oi_words : Cond.instanceMethod objectInit ∈ GW ∧ Cond.code objectInit ⟨#[0xb1]⟩ 1 none ∈ GW := ⟨in_GW (i := 164) (by decide +kernel) rfl, in_GW (i := 165) rfl rfl⟩
set_option maxRecDepth 100000 in
theorem mx_words : Cond.static Lib.Math.max.name ∈ GW ∧ Cond.initialized "java/lang/Math" ∈ GW ∧ Cond.code Lib.Math.max.name Lib.Math.max.code 2 (some .int) ∈ GW := ⟨in_GW (i := 524) (by decide +kernel) rfl, in_GW (i := 148) (by decide +kernel) rfl, in_GW (i := 525) (by decide +kernel) rfl⟩
set_option maxRecDepth 100000 in
theorem mn_words : Cond.static Lib.Math.min.name ∈ GW ∧ Cond.initialized "java/lang/Math" ∈ GW ∧ Cond.code Lib.Math.min.name Lib.Math.min.code 2 (some .int) ∈ GW := ⟨in_GW (i := 488) (by decide +kernel) rfl, in_GW (i := 148) (by decide +kernel) rfl, in_GW (i := 489) (by decide +kernel) rfl⟩
set_option maxRecDepth 100000 in
theorem ab_words : Cond.static Lib.Math.abs.name ∈ GW ∧ Cond.initialized "java/lang/Math" ∈ GW ∧ Cond.code Lib.Math.abs.name Lib.Math.abs.code 1 (some .int) ∈ GW := ⟨in_GW (i := 1641) (by decide +kernel) rfl, in_GW (i := 148) (by decide +kernel) rfl, in_GW (i := 1642) (by decide +kernel) rfl⟩
set_option maxRecDepth 100000 in
theorem ac_words : Cond.native arraycopyName ∈ GW ∧ Cond.static arraycopyName ∈ GW ∧ Cond.initialized "java/lang/System" ∈ GW := ⟨in_GW (i := 710) (by decide +kernel) rfl, in_GW (i := 709) (by decide +kernel) rfl, in_GW (i := 154) (by decide +kernel) rfl⟩
theorem cpyI {f g : Nat → Int} {a b n : Nat} : va_cpy (fun j => Int32.ofInt (f j)) (fun j => Int32.ofInt (g j)) a b n = fun j => Int32.ofInt (va_cpy f g a b n j) := by
  funext j
  unfold va_cpy
  split <;> rfl
theorem fits_i (x : Int32) : fits .int (.int x) = true := rfl
section HS
variable {p : Program} {l : Launch} {e : Env} {R : Room} {s : State} {m : MethodId} {args : Array Value} {below : List Frame} {meth : Method} {c : Code} {mi d : Nat} {z : Nat × (Nat → Nat)} {D : va_G} {A : Nat → Prop} {QQ : State → Prop} {E : CR} {Q : QT} {X : XT} {len pc idx : Nat} {pl : PL} {st : List PV} {κ : KK} {P : PM} {M : MM}
theorem snd_special (G : Gx p R s m args meth c mi A) (hE : ∀ y as κ P M r κ' P' M', E y as κ P M r κ' P' M' → Ctr l d y as κ P M r κ' P' M') (hR : d + 2 ≤ R.frames ∧ 120 + 60 * d ≤ R.locals) (hd : decode (cod mi) pc = .ok (.invokespecial idx, len)) (h : stepP E mi Q X (.invokespecial idx) len pc pl st κ P M (Snd p l e R s m args below meth c mi z D A QQ)) : Snd p l e R s m args below meth c mi z D A QQ pc pl st κ P M := by
  obtain ⟨rfl, cc, y, hct, hcc, h⟩ := h
  unfold kInv at h
  rw [if_neg (by omega), if_neg (by omega)] at h
  by_cases h6 : cc < 6
  · rw [if_pos h6] at h
    obtain ⟨xs, st1, rfl, hxl, ⟨o, as, has⟩, hs4, b, r, κ', P', M', hb9, hEv, hk⟩ := popA_inv _ _ _ _ h
    rw [List.append_nil] at has hEv
    rw [has] at hEv
    have ex : xs = (pR o :: as).reverse := by rw [← has, List.reverse_reverse]
    subst ex
    exact init_go G hR hct ⟨by omega, h6⟩ hd (by rw [← hxl, List.length_reverse]) hs4 hb9 (hE _ _ _ _ _ _ _ _ _ hEv) hk
  · rw [if_neg h6] at h
    have e6 : cc = 6 := by omega
    rw [if_pos e6] at h
    obtain ⟨o, st1, rfl, hs4, hk⟩ := h
    obtain ⟨hx, hb, hml, hown, hts, hnx, hao, hA, hname, hroom, hmi⟩ := id G
    intro ad cA tys H locs cells slots ls I hl hn hst hpl
    obtain ⟨hy, hc10, ⟨j, hj⟩, _⟩ := k_ok hct
    have hwk : lw_tbl[j]? = some (Cond.methodLink (ownN (mow mi)) idx objectInit) := by
      rw [hj, e6]
      rfl
    have hsc := sumcat (ad := ad) st1
    exact W.objInit hx hb hown (hts _ (in_GW hwk rfl)) (hts _ oi_words.1) (hts _ oi_words.2) (g := F0 m pc ls ((pR o :: st1).map (val ad))) rfl (by rw [hml]; exact hl.1) rfl hd hroom.1 (by show 2 * 0 + _ + 12 ≤ R.locals; omega) (hk ad cA tys H locs cells slots ls I hl hn (vt1 hst) hpl)
theorem snd_virtual (G : Gx p R s m args meth c mi A) (hE : ∀ y as κ P M r κ' P' M', E y as κ P M r κ' P' M' → Ctr l d y as κ P M r κ' P' M') (hR : d + 2 ≤ R.frames ∧ 120 + 60 * d ≤ R.locals) (hd : decode (cod mi) pc = .ok (.invokevirtual idx, len)) (h : stepP E mi Q X (.invokevirtual idx) len pc pl st κ P M (Snd p l e R s m args below meth c mi z D A QQ)) : Snd p l e R s m args below meth c mi z D A QQ pc pl st κ P M := by
  obtain ⟨rfl, cc, y, hct, hcc, h⟩ := h
  unfold kInv at h
  rw [if_pos hcc] at h
  obtain ⟨xs, st1, rfl, hxl, ⟨o, as, has, hko⟩, hs4, b, r, κ', P', M', hb9, hEv, hk⟩ := popA_inv _ _ _ _ h
  rw [List.append_nil] at has hEv
  rw [has] at hEv
  have ex : xs = (pR o :: as).reverse := by rw [← has, List.reverse_reverse]
  subst ex
  exact inst_go G hR hct hcc hd (by rw [← hxl, List.length_reverse]) hko hs4 hb9 (hE _ _ _ _ _ _ _ _ _ hEv) hk
theorem copy_go (G : Gx p R s m args meth c mi A) {y : Nat} (hct : CTb (mow mi) idx = some (10, y)) (hd : decode (cod mi) pc = .ok (.invokestatic idx, 3)) {n dp sp : Int} {s0 d0 n0 n1 : Nat} {st1 : List PV} (hs4 : scat st1 ≤ 8) (hk0 : kd κ s0 = (1, n0)) (hk1 : kd κ d0 = (1, n1)) (q1 : 0 ≤ sp) (q2 : 0 ≤ dp) (q3 : 0 ≤ n) (q4 : sp + n ≤ n0) (q5 : dp + n ≤ n1) (hk : Snd p l e R s m args below meth c mi z D A QQ (pc + 3) pl st1 κ P (cM M s0 d0 sp.toNat dp.toNat n.toNat)) : Snd p l e R s m args below meth c mi z D A QQ pc pl (pI n :: pI dp :: pR d0 :: pI sp :: pR s0 :: st1) κ P M := by
  obtain ⟨hx, hb, hml, hown, hts, hnx, hao, hA, hname, hroom, hmi⟩ := id G
  intro ad cA tys H locs cells slots ls I hl hn hst hpl
  obtain ⟨hK, hP, hD, hS, hT, hM, hPo, hKo, hcs, hRo⟩ := id I
  obtain ⟨hy, hc10, ⟨j, hj⟩, _⟩ := k_ok hct
  have hwk : lw_tbl[j]? = some (Cond.methodLink (ownN (mow mi)) idx arraycopyName) := by
    rw [hj]
    rfl
  have hsc := sumcat (ad := ad) st1
  have rn := vhI hst
  have rd := vhI (vt1 hst)
  have rs := vhI (vt1 (vt1 (vt1 hst)))
  have z0 : s0 ≠ 0 := k_ne0 hKo hk0 (by decide)
  have z1 : d0 ≠ 0 := k_ne0 hKo hk1 (by decide)
  have e0 : (kd κ s0).1 = 1 := by rw [hk0]
  have e1 : (kd κ d0).1 = 1 := by rw [hk1]
  have w0 := ws_arr (κ := κ) (ad := ad) (cA := cA) (P := P) (M := M) z0 (Or.inl e0)
  have w1 := ws_arr (κ := κ) (ad := ad) (cA := cA) (P := P) (M := M) z1 (Or.inl e1)
  obtain ⟨t0, ht0⟩ := List.getElem?_of_mem (hT s0 (by omega) (kd_lt hk0 (by decide)) (by omega))
  obtain ⟨t1, ht1⟩ := List.getElem?_of_mem (hT d0 (by omega) (kd_lt hk1 (by decide)) (by omega))
  rw [e0] at ht0
  rw [e1] at ht1
  rw [hk0] at w0
  rw [hk1] at w1
  refine va_copyi (sp := Int32.ofInt sp) (dp := Int32.ofInt dp) (n := Int32.ofInt n) (ty := .int) hx hb (by rw [hml]; exact hl.1.symm) hown (hts _ (in_GW hwk rfl)) (hts _ ac_words.1) (hts _ ac_words.2.1) (hts _ ac_words.2.2) hK hP hD hS (s0 - 1) (d0 - 1) t0 t1 w0 w1 ht0 ht1 rfl (by rw [oI_lt0 rs]; omega) (by rw [oI_lt0 rd]; omega) (by rw [oI_lt0 rn]; omega) (by rw [oI_nat rs, oI_nat rn]; show _ ≤ n0; omega) (by rw [oI_nat rd, oI_nat rn]; show _ ≤ n1; omega) (fun i _ => rfl) hroom.1 ?_ hd ?_
  · have : nativeFrameWords "java/lang/System" "arraycopy" 5 ≤ 30 := by decide +kernel
    omega
  · rw [oI_nat rs, oI_nat rd, oI_nat rn, cpyI]
    intro H1 locs1 g1 g2 g3
    have ews : (wsOf ad cA κ P M).set (d0 - 1) (ad d0, .inl (cA d0, n1, .inl (fun j => Int32.ofInt (va_cpy (M s0) (M d0) sp.toNat dp.toNat n.toNat j)))) = wsOf ad cA κ P (cM M s0 d0 sp.toNat dp.toNat n.toNat) := by
      refine wsOf_set (by omega) (fun _ _ => rfl) (fun q hq => by unfold cM; rw [if_neg hq]) ?_
      rw [cell_i (Or.inl e1), hk1]
      unfold cM
      rw [if_pos rfl]
    dsimp only at g1 g2
    rw [ews] at g1 g2
    refine hk ad cA tys H1 locs1 cells slots ls ⟨hK, g1, g2, g3, hT, ?_, hPo, hKo, hcs, fun q => ?_⟩ hl hn (vt1 (vt1 (vt1 (vt1 (vt1 hst))))) hpl
    · intro o k ho
      unfold cM
      split
      · rename_i eo
        subst eo
        have r1 := hM o k ho
        rw [hk1, tyk_a (t := 1) rfl (by decide)] at r1 ⊢
        unfold va_cpy
        split
        · have r0 := hM s0 (sp.toNat + (k - dp.toNat)) (kd_lt hk0 (by decide))
          rw [hk0, tyk_a (t := 1) rfl (by decide)] at r0
          exact r0
        · exact r1
      · exact hM o k ho
    · obtain ⟨a1, f, a2, a3⟩ := hRo q
      refine ⟨a1, f, a2, fun j hj => ?_⟩
      unfold cM
      rw [if_neg (Ne.symm z1)]
      exact a3 j hj
theorem snd_static (G : Gx p R s m args meth c mi A) (hE : ∀ y as κ P M r κ' P' M', E y as κ P M r κ' P' M' → Ctr l d y as κ P M r κ' P' M') (hR : d + 2 ≤ R.frames ∧ 120 + 60 * d ≤ R.locals) (hd : decode (cod mi) pc = .ok (.invokestatic idx, len)) (h : stepP E mi Q X (.invokestatic idx) len pc pl st κ P M (Snd p l e R s m args below meth c mi z D A QQ)) : Snd p l e R s m args below meth c mi z D A QQ pc pl st κ P M := by
  obtain ⟨rfl, cc, y, hct, hcc, h⟩ := h
  unfold kInv at h
  rw [if_neg (by omega)] at h
  by_cases h4 : cc < 4
  · rw [if_pos h4] at h
    obtain ⟨xs, st1, rfl, hxl, hs4, b, r, κ', P', M', hb9, hEv, hk⟩ := popA_inv _ _ _ _ h
    rw [List.append_nil] at hEv
    have ex : xs = (xs.reverse).reverse := by rw [List.reverse_reverse]
    rw [ex]
    exact stat_go G hR hct ⟨by omega, h4⟩ hd (by rw [← hxl, List.length_reverse]) hs4 hb9 (hE _ _ _ _ _ _ _ _ _ hEv) hk
  · rw [if_neg h4, if_neg (by omega), if_neg (by omega)] at h
    obtain ⟨hx, hb, hml, hown, hts, hnx, hao, hA, hname, hroom, hmi⟩ := id G
    obtain ⟨hy, hc10, ⟨j, hj⟩, _⟩ := k_ok hct
    by_cases h7 : cc = 7
    · rw [if_pos h7] at h
      obtain ⟨y9, st1, rfl, x9, st2, rfl, hs4, hk⟩ := h
      intro ad cA tys H locs cells slots ls I hl hn hst hpl
      have hwk : lw_tbl[j]? = some (Cond.methodLink (ownN (mow mi)) idx Lib.Math.max.name) := by
        rw [hj, h7]
        rfl
      have hsc := sumcat (ad := ad) st2
      have ry := vhI hst
      have rx := vhI (vt1 hst)
      have hcs := I.2.2.2.2.2.2.2.2.1
      refine va_mmax (x := Int32.ofInt x9) (y := Int32.ofInt y9) hx hb (by rw [hml]; exact hl.1.symm) hown (hts _ (in_GW hwk rfl)) (hts _ mx_words.1) (hts _ mx_words.2.1) (hts _ mx_words.2.2) hroom.1 (by omega) (by omega) (by omega) hd ?_
      rw [oI_max rx ry]
      exact hk ad cA tys H locs cells slots ls I hl hn (vkI (by split <;> assumption) (vt1 (vt1 hst))) hpl
    rw [if_neg h7] at h
    by_cases h8 : cc = 8
    · rw [if_pos h8] at h
      obtain ⟨y9, st1, rfl, x9, st2, rfl, hs4, hk⟩ := h
      intro ad cA tys H locs cells slots ls I hl hn hst hpl
      have hwk : lw_tbl[j]? = some (Cond.methodLink (ownN (mow mi)) idx Lib.Math.min.name) := by
        rw [hj, h8]
        rfl
      have hsc := sumcat (ad := ad) st2
      have ry := vhI hst
      have rx := vhI (vt1 hst)
      have hcs := I.2.2.2.2.2.2.2.2.1
      refine va_mmin (x := Int32.ofInt x9) (y := Int32.ofInt y9) hx hb (by rw [hml]; exact hl.1.symm) hown (hts _ (in_GW hwk rfl)) (hts _ mn_words.1) (hts _ mn_words.2.1) (hts _ mn_words.2.2) hroom.1 (by omega) (by omega) (by omega) hd ?_
      have em : (if Int32.ofInt y9 < Int32.ofInt x9 then Int32.ofInt y9 else Int32.ofInt x9) = Int32.ofInt (if y9 < x9 then y9 else x9) := by
        simp only [oI_lt ry rx]
        split <;> rfl
      rw [em]
      exact hk ad cA tys H locs cells slots ls I hl hn (vkI (by split <;> assumption) (vt1 (vt1 hst))) hpl
    rw [if_neg h8] at h
    by_cases h9 : cc = 9
    · rw [if_pos h9] at h
      obtain ⟨x9, st2, rfl, hs4, hk⟩ := h
      intro ad cA tys H locs cells slots ls I hl hn hst hpl
      have hwk : lw_tbl[j]? = some (Cond.methodLink (ownN (mow mi)) idx Lib.Math.abs.name) := by
        rw [hj, h9]
        rfl
      have hsc := sumcat (ad := ad) st2
      have rx := vhI hst
      have hcs := I.2.2.2.2.2.2.2.2.1
      refine va_mabs (x := Int32.ofInt x9) hx hb (by rw [hml]; exact hl.1.symm) hown (hts _ (in_GW hwk rfl)) (hts _ ab_words.1) (hts _ ab_words.2.1) (hts _ ab_words.2.2) hroom.1 (by omega) (by omega) (by omega) hd ?_
      rw [oI_abs rx]
      refine hk ad cA tys H locs cells slots ls I hl hn (vkI ?_ (vt1 hst)) hpl
      split
      · exact rx
      · exact r32_w _
    rw [if_neg h9] at h
    have h10 : cc = 10 := by omega
    rw [if_pos h10] at h
    subst h10
    obtain ⟨n, st1, rfl, dp, st2, rfl, d0, st3, rfl, sp, st4, rfl, s0, st5, rfl, hs4, n0, n1, k0, k1, q1, q2, q3, q4, q5, hk⟩ := h
    exact copy_go G hct hd hs4 k0 k1 q1 q2 q3 q4 q5 hk
end HS
