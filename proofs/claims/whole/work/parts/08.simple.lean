/-! the simple instructions: stack, locals, numbers, branches; the cases by wip/gen/gen_simple.py -/
def Snd (p : Program) (l : Launch) (e : Env) (R : Room) (s : State) (m : MethodId) (args : Array Value) (below : List Frame) (meth : Method) (c : Code) (mi : Nat) (z : Nat × (Nat → Nat)) (D : va_G) (A : Nat → Prop) (QQ : State → Prop) : KT := fun pc pl st κ P M => ∀ ad cA tys H locs cells slots ls, Inv z D A R s ad cA tys κ P M H locs cells slots → lv_has ls (mxl mi) (lst ad pl) → pl.length = mxl mi → (∀ v ∈ st, vok κ v) → (∀ v, some v ∈ pl → vok κ v) → W p l e R s m args below meth c H locs cells slots QQ (F0 m pc ls (st.map (val ad)))
theorem vk1 {κ : KK} {v : PV} {st : List PV} (hv : vok κ v) (h : ∀ w ∈ st, vok κ w) : ∀ w ∈ v :: st, vok κ w := List.forall_mem_cons.mpr ⟨hv, h⟩
theorem vt1 {κ : KK} {v : PV} {st : List PV} (h : ∀ w ∈ v :: st, vok κ w) : ∀ w ∈ st, vok κ w := (List.forall_mem_cons.mp h).2
theorem vh1 {κ : KK} {v : PV} {st : List PV} (h : ∀ w ∈ v :: st, vok κ w) : vok κ v := (List.forall_mem_cons.mp h).1
theorem vhI {κ : KK} {x : Int} {st : List PV} (h : ∀ w ∈ pI x :: st, vok κ w) : r32 x := vh1 h
theorem vhL {κ : KK} {x : Int} {st : List PV} (h : ∀ w ∈ pL x :: st, vok κ w) : r64 x := vh1 h
theorem vkI {κ : KK} {x : Int} {st : List PV} (hv : r32 x) (h : ∀ w ∈ st, vok κ w) : ∀ w ∈ pI x :: st, vok κ w := vk1 hv h
theorem vkL {κ : KK} {x : Int} {st : List PV} (hv : r64 x) (h : ∀ w ∈ st, vok κ w) : ∀ w ∈ pL x :: st, vok κ w := vk1 hv h
theorem tg_ok {pc : Nat} {off : Int} (h : 0 ≤ (pc : Int) + off) : (pc : Int) + off = (tg pc off : Int) := by unfold tg; omega
theorem oI_and (x y : Int) : Int32.ofInt x &&& Int32.ofInt y = Int32.ofInt (bAnd x y) := (toI _).symm
theorem oI_or (x y : Int) : Int32.ofInt x ||| Int32.ofInt y = Int32.ofInt (bOr x y) := (toI _).symm
theorem oI_xor (x y : Int) : Int32.ofInt x ^^^ Int32.ofInt y = Int32.ofInt (bXor x y) := (toI _).symm
theorem oI_shl (x y : Int) : Int32.ofInt x <<< (Int32.ofInt y &&& 31) = Int32.ofInt (bShl x y) := (toI _).symm
theorem oI_shr (x y : Int) : Int32.ofInt x >>> (Int32.ofInt y &&& 31) = Int32.ofInt (bShr x y) := (toI _).symm
theorem oL_and (x y : Int) : Int64.ofInt x &&& Int64.ofInt y = Int64.ofInt (lAnd x y) := (toL _).symm
theorem oL_or (x y : Int) : Int64.ofInt x ||| Int64.ofInt y = Int64.ofInt (lOr x y) := (toL _).symm
theorem oL_xor (x y : Int) : Int64.ofInt x ^^^ Int64.ofInt y = Int64.ofInt (lXor x y) := (toL _).symm
theorem lst_set1 {ad : Nat → Nat} {pl : PL} {k n : Nat} {v : PV} {ls' : Array Slot} (hk : k < pl.length) (h : lv_has ls' n ((k, val ad v) :: (lst ad pl).filter (fun q => !(q.1 == k) && !(q.1 + 1 == k && q.2.category == 2)))) : lv_has ls' n (lst ad (set1 pl k v)) := by
  refine ⟨h.1, h.2.1, fun q hq => ?_⟩
  obtain ⟨i, w⟩ := q
  obtain ⟨v2, h1, h2⟩ := lst_mem.mp hq
  dsimp only at h1 h2
  subst h2
  rcases set1_get pl k v i v2 hk h1 with ⟨rfl, rfl⟩ | ⟨a, b, c⟩
  · exact h.2.2 _ List.mem_cons_self
  · refine h.2.2 (i, val ad v2) (List.mem_cons_of_mem _ (List.mem_filter.mpr ⟨lst_mem.mpr ⟨v2, b, rfl⟩, ?_⟩))
    simp only [Bool.and_eq_true, Bool.not_eq_true', beq_eq_false_iff_ne, ne_eq, Bool.and_eq_false_iff]
    refine ⟨a, ?_⟩
    by_cases e : i + 1 = k
    · right
      rw [val_cat, c e]
      decide
    · exact Or.inl e
theorem lst_set2 {ad : Nat → Nat} {pl : PL} {k n : Nat} {v : PV} {ls' : Array Slot} (hk : k + 1 < pl.length) (h : lv_has ls' n ((k, val ad v) :: (lst ad pl).filter (fun q => !(q.1 == k) && (!(q.1 == k + 1) && !(q.1 + 1 == k && q.2.category == 2))))) : lv_has ls' n (lst ad (set2 pl k v)) := by
  refine ⟨h.1, h.2.1, fun q hq => ?_⟩
  obtain ⟨i, w⟩ := q
  obtain ⟨v2, h1, h2⟩ := lst_mem.mp hq
  dsimp only at h1 h2
  subst h2
  rcases set2_get pl k v i v2 hk h1 with ⟨rfl, rfl⟩ | ⟨a, a2, b, c⟩
  · exact h.2.2 _ List.mem_cons_self
  · refine h.2.2 (i, val ad v2) (List.mem_cons_of_mem _ (List.mem_filter.mpr ⟨lst_mem.mpr ⟨v2, b, rfl⟩, ?_⟩))
    simp only [Bool.and_eq_true, Bool.not_eq_true', beq_eq_false_iff_ne, ne_eq, Bool.and_eq_false_iff]
    refine ⟨a, a2, ?_⟩
    by_cases e : i + 1 = k
    · right
      rw [val_cat, c e]
      decide
    · exact Or.inl e
theorem pl_set1 {κ : KK} {pl : PL} {k : Nat} {v : PV} (hk : k < pl.length) (hv : vok κ v) (h : ∀ v, some v ∈ pl → vok κ v) : ∀ w, some w ∈ set1 pl k v → vok κ w := by
  intro w hw
  obtain ⟨i, hi⟩ := List.getElem?_of_mem hw
  rcases set1_get pl k v i w hk hi with ⟨_, rfl⟩ | ⟨_, b, _⟩
  · exact hv
  · exact h w (List.mem_of_getElem? b)
theorem pl_set2 {κ : KK} {pl : PL} {k : Nat} {v : PV} (hk : k + 1 < pl.length) (hv : vok κ v) (h : ∀ v, some v ∈ pl → vok κ v) : ∀ w, some w ∈ set2 pl k v → vok κ w := by
  intro w hw
  obtain ⟨i, hi⟩ := List.getElem?_of_mem hw
  rcases set2_get pl k v i w hk hi with ⟨_, rfl⟩ | ⟨_, _, b, _⟩
  · exact hv
  · exact h w (List.mem_of_getElem? b)
theorem it_ok {ow idx : Nat} {v : Int} (h : IT ow idx = some v) : r32 v ∧ ∃ i : Nat, lw_tbl[i]? = some (.constant (ownN ow) idx (Int32.ofInt v)) := by
  unfold IT at h
  obtain ⟨e, he, rfl⟩ := Option.map_eq_some_iff.mp h
  have hp := List.find?_some he
  simp only [Bool.and_eq_true, beq_iff_eq] at hp
  obtain ⟨i, hi⟩ := List.getElem?_of_mem (List.mem_of_find?_eq_some he)
  have hl : i < iplc.length := by rw [← ichk.2]; exact (List.getElem?_eq_some_iff.mp hi).1
  have hz : (itab.zip iplc)[i]? = some (e, iplc[i]) := by rw [List.getElem?_zip_eq_some]; exact ⟨hi, List.getElem?_eq_getElem hl⟩
  have hc := List.all_eq_true.mp ichk.1 _ (List.mem_of_getElem? hz)
  simp only [chkI, Bool.and_eq_true, decide_eq_true_eq] at hc
  rw [hp.1, hp.2] at hc
  exact ⟨hc.1, _, hc.2⟩
theorem jt_ok {ow idx : Nat} {v : Int} (h : JT ow idx = some v) : r64 v ∧ ∃ i : Nat, lw_tbl[i]? = some (.constantLong (ownN ow) idx (Int64.ofInt v)) := by
  unfold JT at h
  obtain ⟨e, he, rfl⟩ := Option.map_eq_some_iff.mp h
  have hp := List.find?_some he
  simp only [Bool.and_eq_true, beq_iff_eq] at hp
  obtain ⟨i, hi⟩ := List.getElem?_of_mem (List.mem_of_find?_eq_some he)
  have hl : i < jplc.length := by rw [← jchk.2]; exact (List.getElem?_eq_some_iff.mp hi).1
  have hz : (jtab.zip jplc)[i]? = some (e, jplc[i]) := by rw [List.getElem?_zip_eq_some]; exact ⟨hi, List.getElem?_eq_getElem hl⟩
  have hc := List.all_eq_true.mp jchk.1 _ (List.mem_of_getElem? hz)
  simp only [chkJ, Bool.and_eq_true, decide_eq_true_eq] at hc
  rw [hp.1, hp.2] at hc
  exact ⟨hc.1, _, hc.2⟩
theorem swo_in {d lo hi x : Int} {offs : Array Int} (h1 : ¬ x < lo) (h2 : ¬ hi < x) (hs : offs.size = (hi - lo + 1).toNat) : offs[(x - lo).toNat]? = some (swo d lo hi offs.toList x) := by
  unfold swo
  rw [if_neg (by omega)]
  have hlt : (x - lo).toNat < offs.size := by omega
  rw [List.getD_eq_getElem?_getD, Array.getElem?_toList, Array.getElem?_eq_getElem hlt]
  rfl
def isS : Instr → Bool
  | .iadd .. => true
  | .isub .. => true
  | .imul .. => true
  | .iand .. => true
  | .ior .. => true
  | .ixor .. => true
  | .ishl .. => true
  | .ishr .. => true
  | .iushr .. => true
  | .idiv .. => true
  | .irem .. => true
  | .ineg .. => true
  | .i2l .. => true
  | .l2i .. => true
  | .i2b .. => true
  | .i2s .. => true
  | .i2c .. => true
  | .ladd .. => true
  | .lsub .. => true
  | .lmul .. => true
  | .land .. => true
  | .lor .. => true
  | .lxor .. => true
  | .ldiv .. => true
  | .lrem .. => true
  | .lcmp .. => true
  | .lshl .. => true
  | .lshr .. => true
  | .lushr .. => true
  | .iconst .. => true
  | .bipush .. => true
  | .sipush .. => true
  | .lconst .. => true
  | .ldc .. => true
  | .ldc_w .. => true
  | .ldc2_w .. => true
  | .iload_n .. => true
  | .iload .. => true
  | .lload_n .. => true
  | .lload .. => true
  | .aload_n .. => true
  | .aload .. => true
  | .istore_n .. => true
  | .istore .. => true
  | .astore_n .. => true
  | .astore .. => true
  | .lstore_n .. => true
  | .lstore .. => true
  | .iinc .. => true
  | .dup .. => true
  | .pop .. => true
  | .dup_x1 .. => true
  | .dup2 .. => true
  | .ifCond .. => true
  | .if_icmp .. => true
  | .goto .. => true
  | .tableswitch .. => true
  | .lookupswitch .. => true
  | _ => false
set_option maxHeartbeats 4000000 in
theorem snd_simple {p : Program} {l : Launch} {e : Env} {R : Room} {s : State} {m : MethodId} {args : Array Value} {below : List Frame} {meth : Method} {c : Code} {mi : Nat} {z : Nat × (Nat → Nat)} {D : va_G} {A : Nat → Prop} {QQ : State → Prop} {E : CR} {Q : QT} {X : XT} (G : Gx p R s m args meth c mi A) {i : Instr} {len pc : Nat} {pl : PL} {st : List PV} {κ : KK} {P : PM} {M : MM} (hS : isS i = true) (hd : decode (cod mi) pc = .ok (i, len)) (h : stepP E mi Q X i len pc pl st κ P M (Snd p l e R s m args below meth c mi z D A QQ)) : Snd p l e R s m args below meth c mi z D A QQ pc pl st κ P M := by
  obtain ⟨hx, hb, hml, hown, hts, hnx, hao, hA, hname, hroom, hmi⟩ := G
  cases i
  case iadd =>
    obtain ⟨rfl, y, st1, rfl, x, st2, rfl, h⟩ := h
    intro ad cA tys H locs cells slots ls I hl hn hst hpl
    have hy := vhI hst
    have hx9 := vhI (vt1 hst)
    refine lv_iadd (x := Int32.ofInt x) (y := Int32.ofInt y) hx hb hd ?_
    rw [oI_add]
    exact h ad cA tys H locs cells slots ls I hl hn (vkI (r32_w _) (vt1 (vt1 hst))) hpl
  case isub =>
    obtain ⟨rfl, y, st1, rfl, x, st2, rfl, h⟩ := h
    intro ad cA tys H locs cells slots ls I hl hn hst hpl
    have hy := vhI hst
    have hx9 := vhI (vt1 hst)
    refine lv_isub (x := Int32.ofInt x) (y := Int32.ofInt y) hx hb hd ?_
    rw [oI_sub]
    exact h ad cA tys H locs cells slots ls I hl hn (vkI (r32_w _) (vt1 (vt1 hst))) hpl
  case imul =>
    obtain ⟨rfl, y, st1, rfl, x, st2, rfl, h⟩ := h
    intro ad cA tys H locs cells slots ls I hl hn hst hpl
    have hy := vhI hst
    have hx9 := vhI (vt1 hst)
    refine lv_imul (x := Int32.ofInt x) (y := Int32.ofInt y) hx hb hd ?_
    rw [oI_mul]
    exact h ad cA tys H locs cells slots ls I hl hn (vkI (r32_w _) (vt1 (vt1 hst))) hpl
  case iand =>
    obtain ⟨rfl, y, st1, rfl, x, st2, rfl, h⟩ := h
    intro ad cA tys H locs cells slots ls I hl hn hst hpl
    have hy := vhI hst
    have hx9 := vhI (vt1 hst)
    refine lv_iand (x := Int32.ofInt x) (y := Int32.ofInt y) hx hb hd ?_
    rw [oI_and]
    exact h ad cA tys H locs cells slots ls I hl hn (vkI (r32_i _) (vt1 (vt1 hst))) hpl
  case ior =>
    obtain ⟨rfl, y, st1, rfl, x, st2, rfl, h⟩ := h
    intro ad cA tys H locs cells slots ls I hl hn hst hpl
    have hy := vhI hst
    have hx9 := vhI (vt1 hst)
    refine lv_ior (x := Int32.ofInt x) (y := Int32.ofInt y) hx hb hd ?_
    rw [oI_or]
    exact h ad cA tys H locs cells slots ls I hl hn (vkI (r32_i _) (vt1 (vt1 hst))) hpl
  case ixor =>
    obtain ⟨rfl, y, st1, rfl, x, st2, rfl, h⟩ := h
    intro ad cA tys H locs cells slots ls I hl hn hst hpl
    have hy := vhI hst
    have hx9 := vhI (vt1 hst)
    refine lv_ixor (x := Int32.ofInt x) (y := Int32.ofInt y) hx hb hd ?_
    rw [oI_xor]
    exact h ad cA tys H locs cells slots ls I hl hn (vkI (r32_i _) (vt1 (vt1 hst))) hpl
  case ishl =>
    obtain ⟨rfl, y, st1, rfl, x, st2, rfl, h⟩ := h
    intro ad cA tys H locs cells slots ls I hl hn hst hpl
    have hy := vhI hst
    have hx9 := vhI (vt1 hst)
    refine lv_ishl (x := Int32.ofInt x) (y := Int32.ofInt y) hx hb hd ?_
    rw [oI_shl]
    exact h ad cA tys H locs cells slots ls I hl hn (vkI (r32_i _) (vt1 (vt1 hst))) hpl
  case ishr =>
    obtain ⟨rfl, y, st1, rfl, x, st2, rfl, h⟩ := h
    intro ad cA tys H locs cells slots ls I hl hn hst hpl
    have hy := vhI hst
    have hx9 := vhI (vt1 hst)
    refine lv_ishr (x := Int32.ofInt x) (y := Int32.ofInt y) hx hb hd ?_
    rw [oI_shr]
    exact h ad cA tys H locs cells slots ls I hl hn (vkI (r32_i _) (vt1 (vt1 hst))) hpl
  case iushr =>
    obtain ⟨rfl, y, st1, rfl, x, st2, rfl, h⟩ := h
    intro ad cA tys H locs cells slots ls I hl hn hst hpl
    have hy := vhI hst
    have hx9 := vhI (vt1 hst)
    refine lv_iushr (x := Int32.ofInt x) (y := Int32.ofInt y) (v := Int32.ofInt (bUshr x y)) hx hb hd (toI _).symm ?_
    exact h ad cA tys H locs cells slots ls I hl hn (vkI (r32_i _) (vt1 (vt1 hst))) hpl
  case idiv =>
    obtain ⟨rfl, y, st1, rfl, x, st2, rfl, hy0, h⟩ := h
    intro ad cA tys H locs cells slots ls I hl hn hst hpl
    have hy := vhI hst
    have hx9 := vhI (vt1 hst)
    refine lv_idiv (x := Int32.ofInt x) (y := Int32.ofInt y) hx hb hd (fun q => hy0 ((oI_eq0 hy).mp q)) ?_
    rw [oI_div hx9 hy]
    exact h ad cA tys H locs cells slots ls I hl hn (vkI (r32_w _) (vt1 (vt1 hst))) hpl
  case irem =>
    obtain ⟨rfl, y, st1, rfl, x, st2, rfl, hy0, h⟩ := h
    intro ad cA tys H locs cells slots ls I hl hn hst hpl
    have hy := vhI hst
    have hx9 := vhI (vt1 hst)
    refine lv_irem (x := Int32.ofInt x) (y := Int32.ofInt y) hx hb hd (fun q => hy0 ((oI_eq0 hy).mp q)) ?_
    rw [oI_rem hx9 hy]
    exact h ad cA tys H locs cells slots ls I hl hn (vkI (tmod_r32 hx9) (vt1 (vt1 hst))) hpl
  case ineg =>
    obtain ⟨rfl, x, st2, rfl, h⟩ := h
    intro ad cA tys H locs cells slots ls I hl hn hst hpl
    have hx9 := vhI hst
    refine lv_ineg (x := Int32.ofInt x) hx hb hd ?_
    rw [oI_neg]
    exact h ad cA tys H locs cells slots ls I hl hn (vkI (r32_w _) (vt1 hst)) hpl
  case i2l =>
    obtain ⟨rfl, x, st2, rfl, h⟩ := h
    intro ad cA tys H locs cells slots ls I hl hn hst hpl
    have hx9 := vhI hst
    refine lv_i2l (x := Int32.ofInt x) hx hb hd (oI_i2l hx9) ?_
    exact h ad cA tys H locs cells slots ls I hl hn (vkL (by unfold r32 at hx9; unfold r64; omega) (vt1 hst)) hpl
  case l2i =>
    obtain ⟨rfl, x, st2, rfl, h⟩ := h
    intro ad cA tys H locs cells slots ls I hl hn hst hpl
    have hx9 := vhL hst
    refine lv_l2i (x := Int64.ofInt x) hx hb hd (oL_l2i x hx9) ?_
    exact h ad cA tys H locs cells slots ls I hl hn (vkI (r32_w _) (vt1 hst)) hpl
  case i2b =>
    obtain ⟨rfl, x, st2, rfl, h⟩ := h
    intro ad cA tys H locs cells slots ls I hl hn hst hpl
    have hx9 := vhI hst
    refine lv_i2b (x := Int32.ofInt x) hx hb hd (oI_i2b hx9) ?_
    exact h ad cA tys H locs cells slots ls I hl hn (vkI (r32_w8 _) (vt1 hst)) hpl
  case i2s =>
    obtain ⟨rfl, x, st2, rfl, h⟩ := h
    intro ad cA tys H locs cells slots ls I hl hn hst hpl
    have hx9 := vhI hst
    refine lv_i2s (x := Int32.ofInt x) hx hb hd (oI_i2s hx9) ?_
    exact h ad cA tys H locs cells slots ls I hl hn (vkI (r32_w16 _) (vt1 hst)) hpl
  case i2c =>
    obtain ⟨rfl, x, st2, rfl, h⟩ := h
    intro ad cA tys H locs cells slots ls I hl hn hst hpl
    have hx9 := vhI hst
    refine lv_i2c (x := Int32.ofInt x) hx hb hd (oI_i2c x) ?_
    exact h ad cA tys H locs cells slots ls I hl hn (vkI (r32_c _) (vt1 hst)) hpl
  case ladd =>
    obtain ⟨rfl, y, st1, rfl, x, st2, rfl, h⟩ := h
    intro ad cA tys H locs cells slots ls I hl hn hst hpl
    have hy := vhL hst
    have hx9 := vhL (vt1 hst)
    refine lv_ladd (x := Int64.ofInt x) (y := Int64.ofInt y) hx hb hd ?_
    rw [oL_add]
    exact h ad cA tys H locs cells slots ls I hl hn (vkL (r64_w _) (vt1 (vt1 hst))) hpl
  case lsub =>
    obtain ⟨rfl, y, st1, rfl, x, st2, rfl, h⟩ := h
    intro ad cA tys H locs cells slots ls I hl hn hst hpl
    have hy := vhL hst
    have hx9 := vhL (vt1 hst)
    refine lv_lsub (x := Int64.ofInt x) (y := Int64.ofInt y) hx hb hd ?_
    rw [oL_sub]
    exact h ad cA tys H locs cells slots ls I hl hn (vkL (r64_w _) (vt1 (vt1 hst))) hpl
  case lmul =>
    obtain ⟨rfl, y, st1, rfl, x, st2, rfl, h⟩ := h
    intro ad cA tys H locs cells slots ls I hl hn hst hpl
    have hy := vhL hst
    have hx9 := vhL (vt1 hst)
    refine lv_lmul (x := Int64.ofInt x) (y := Int64.ofInt y) hx hb hd ?_
    rw [oL_mul]
    exact h ad cA tys H locs cells slots ls I hl hn (vkL (r64_w _) (vt1 (vt1 hst))) hpl
  case land =>
    obtain ⟨rfl, y, st1, rfl, x, st2, rfl, h⟩ := h
    intro ad cA tys H locs cells slots ls I hl hn hst hpl
    have hy := vhL hst
    have hx9 := vhL (vt1 hst)
    refine lv_land (x := Int64.ofInt x) (y := Int64.ofInt y) hx hb hd ?_
    rw [oL_and]
    exact h ad cA tys H locs cells slots ls I hl hn (vkL (r64_i _) (vt1 (vt1 hst))) hpl
  case lor =>
    obtain ⟨rfl, y, st1, rfl, x, st2, rfl, h⟩ := h
    intro ad cA tys H locs cells slots ls I hl hn hst hpl
    have hy := vhL hst
    have hx9 := vhL (vt1 hst)
    refine lv_lor (x := Int64.ofInt x) (y := Int64.ofInt y) hx hb hd ?_
    rw [oL_or]
    exact h ad cA tys H locs cells slots ls I hl hn (vkL (r64_i _) (vt1 (vt1 hst))) hpl
  case lxor =>
    obtain ⟨rfl, y, st1, rfl, x, st2, rfl, h⟩ := h
    intro ad cA tys H locs cells slots ls I hl hn hst hpl
    have hy := vhL hst
    have hx9 := vhL (vt1 hst)
    refine lv_lxor (x := Int64.ofInt x) (y := Int64.ofInt y) hx hb hd ?_
    rw [oL_xor]
    exact h ad cA tys H locs cells slots ls I hl hn (vkL (r64_i _) (vt1 (vt1 hst))) hpl
  case ldiv =>
    obtain ⟨rfl, y, st1, rfl, x, st2, rfl, hy0, h⟩ := h
    intro ad cA tys H locs cells slots ls I hl hn hst hpl
    have hy := vhL hst
    have hx9 := vhL (vt1 hst)
    refine lv_ldiv (x := Int64.ofInt x) (y := Int64.ofInt y) hx hb hd (fun q => hy0 ((oL_eq hy r64_0).mp q)) ?_
    rw [oL_div hx9 hy]
    exact h ad cA tys H locs cells slots ls I hl hn (vkL (r64_w _) (vt1 (vt1 hst))) hpl
  case lrem =>
    obtain ⟨rfl, y, st1, rfl, x, st2, rfl, hy0, h⟩ := h
    intro ad cA tys H locs cells slots ls I hl hn hst hpl
    have hy := vhL hst
    have hx9 := vhL (vt1 hst)
    refine lv_lrem (x := Int64.ofInt x) (y := Int64.ofInt y) hx hb hd (fun q => hy0 ((oL_eq hy r64_0).mp q)) ?_
    rw [oL_rem hx9 hy]
    exact h ad cA tys H locs cells slots ls I hl hn (vkL (tmod_r64 hx9) (vt1 (vt1 hst))) hpl
  case lcmp =>
    obtain ⟨rfl, y, st1, rfl, x, st2, rfl, h⟩ := h
    intro ad cA tys H locs cells slots ls I hl hn hst hpl
    have hy := vhL hst
    have hx9 := vhL (vt1 hst)
    refine W.lcmp (x := Int64.ofInt x) (y := Int64.ofInt y) hx hb hd ?_
    rw [oL_cmp hx9 hy]
    exact h ad cA tys H locs cells slots ls I hl hn (vkI (r32_lCmp _ _) (vt1 (vt1 hst))) hpl
  case lshl =>
    obtain ⟨rfl, y, st1, rfl, x, st2, rfl, h⟩ := h
    intro ad cA tys H locs cells slots ls I hl hn hst hpl
    refine lv_lshl (x := Int64.ofInt x) (y := Int32.ofInt y) (v := Int64.ofInt (lShl x y)) hx hb hd (toL _).symm ?_
    exact h ad cA tys H locs cells slots ls I hl hn (vkL (r64_i _) (vt1 (vt1 hst))) hpl
  case lshr =>
    obtain ⟨rfl, y, st1, rfl, x, st2, rfl, h⟩ := h
    intro ad cA tys H locs cells slots ls I hl hn hst hpl
    refine lv_lshr (x := Int64.ofInt x) (y := Int32.ofInt y) (v := Int64.ofInt (lShr x y)) hx hb hd (toL _).symm ?_
    exact h ad cA tys H locs cells slots ls I hl hn (vkL (r64_i _) (vt1 (vt1 hst))) hpl
  case lushr =>
    obtain ⟨rfl, y, st1, rfl, x, st2, rfl, h⟩ := h
    intro ad cA tys H locs cells slots ls I hl hn hst hpl
    refine lv_lushr (x := Int64.ofInt x) (y := Int32.ofInt y) (v := Int64.ofInt (lUshr x y)) hx hb hd (toL _).symm ?_
    exact h ad cA tys H locs cells slots ls I hl hn (vkL (r64_i _) (vt1 (vt1 hst))) hpl
  case iconst n =>
    obtain ⟨rfl, hr, h⟩ := h
    intro ad cA tys H locs cells slots ls I hl hn hst hpl
    refine lv_iconst (v := Int32.ofInt n) hx hb hd rfl ?_
    exact h ad cA tys H locs cells slots ls I hl hn (vkI (by unfold r32; omega) hst) hpl
  case bipush n =>
    obtain ⟨rfl, hr, h⟩ := h
    intro ad cA tys H locs cells slots ls I hl hn hst hpl
    refine lv_bipush (v := Int32.ofInt n) hx hb hd (oI_bipush hr.1 hr.2) ?_
    exact h ad cA tys H locs cells slots ls I hl hn (vkI (by unfold r32; omega) hst) hpl
  case sipush n =>
    obtain ⟨rfl, hr, h⟩ := h
    intro ad cA tys H locs cells slots ls I hl hn hst hpl
    refine lv_sipush (v := Int32.ofInt n) hx hb hd (oI_sipush hr.1 hr.2) ?_
    exact h ad cA tys H locs cells slots ls I hl hn (vkI (by unfold r32; omega) hst) hpl
  case lconst n =>
    obtain ⟨rfl, h⟩ := h
    intro ad cA tys H locs cells slots ls I hl hn hst hpl
    refine lv_lconst (v := Int64.ofInt ((n : Nat) : Int)) hx hb hd rfl ?_
    exact h ad cA tys H locs cells slots ls I hl hn (vkL (by unfold r64; omega) hst) hpl
  case ldc n =>
    obtain ⟨rfl, v, hv, h⟩ := h
    obtain ⟨hr, k9, hk⟩ := it_ok hv
    intro ad cA tys H locs cells slots ls I hl hn hst hpl
    refine lv_ldc (v := Int32.ofInt v) hx hb hown (hts _ (in_GW hk rfl)) hd ?_
    exact h ad cA tys H locs cells slots ls I hl hn (vkI hr hst) hpl
  case ldc_w n =>
    obtain ⟨rfl, v, hv, h⟩ := h
    obtain ⟨hr, k9, hk⟩ := it_ok hv
    intro ad cA tys H locs cells slots ls I hl hn hst hpl
    refine lv_ldcw (v := Int32.ofInt v) hx hb hown (hts _ (in_GW hk rfl)) hd ?_
    exact h ad cA tys H locs cells slots ls I hl hn (vkI hr hst) hpl
  case ldc2_w n =>
    obtain ⟨rfl, v, hv, h⟩ := h
    obtain ⟨hr, k9, hk⟩ := jt_ok hv
    intro ad cA tys H locs cells slots ls I hl hn hst hpl
    refine lv_ldc2 (v := Int64.ofInt v) hx hb hown (hts _ (in_GW hk rfl)) hd ?_
    exact h ad cA tys H locs cells slots ls I hl hn (vkL hr hst) hpl
  case iload_n k =>
    obtain ⟨rfl, x, hk, h⟩ := h
    intro ad cA tys H locs cells slots ls I hl hn hst hpl
    refine lv_iload_n hx hb hd rfl (lst_has hl hk) ?_
    exact h ad cA tys H locs cells slots ls I hl hn (vk1 (hpl _ (List.mem_of_getElem? hk)) hst) hpl
  case iload k =>
    obtain ⟨rfl, x, hk, h⟩ := h
    intro ad cA tys H locs cells slots ls I hl hn hst hpl
    refine lv_iload hx hb hd (lst_has hl hk) ?_
    exact h ad cA tys H locs cells slots ls I hl hn (vk1 (hpl _ (List.mem_of_getElem? hk)) hst) hpl
  case lload_n k =>
    obtain ⟨rfl, x, hk, h⟩ := h
    intro ad cA tys H locs cells slots ls I hl hn hst hpl
    refine lv_lload_n hx hb hd rfl (lst_has hl hk) ?_
    exact h ad cA tys H locs cells slots ls I hl hn (vk1 (hpl _ (List.mem_of_getElem? hk)) hst) hpl
  case lload k =>
    obtain ⟨rfl, x, hk, h⟩ := h
    intro ad cA tys H locs cells slots ls I hl hn hst hpl
    refine lv_lload hx hb hd (lst_has hl hk) ?_
    exact h ad cA tys H locs cells slots ls I hl hn (vk1 (hpl _ (List.mem_of_getElem? hk)) hst) hpl
  case aload_n k =>
    obtain ⟨rfl, x, hk, h⟩ := h
    intro ad cA tys H locs cells slots ls I hl hn hst hpl
    refine lv_aload_n hx hb hd rfl (lst_has hl hk) ?_
    exact h ad cA tys H locs cells slots ls I hl hn (vk1 (hpl _ (List.mem_of_getElem? hk)) hst) hpl
  case aload k =>
    obtain ⟨rfl, x, hk, h⟩ := h
    intro ad cA tys H locs cells slots ls I hl hn hst hpl
    refine lv_aload hx hb hd (lst_has hl hk) ?_
    exact h ad cA tys H locs cells slots ls I hl hn (vk1 (hpl _ (List.mem_of_getElem? hk)) hst) hpl
  case istore_n k =>
    obtain ⟨rfl, hk, x, st1, rfl, h⟩ := h
    intro ad cA tys H locs cells slots ls I hl hn hst hpl
    refine lv_istore_n hx hb hd rfl hl (by rw [← hn]; exact hk) rfl (fun ls2 hl2 => ?_)
    exact h ad cA tys H locs cells slots ls2 I (lst_set1 (v := pI x) hk hl2) (by rw [set1_len]; exact hn) (vt1 hst) (pl_set1 hk (vh1 hst) hpl)
  case istore k =>
    obtain ⟨rfl, hk, x, st1, rfl, h⟩ := h
    intro ad cA tys H locs cells slots ls I hl hn hst hpl
    refine lv_istore hx hb hd hl (by rw [← hn]; exact hk) rfl (fun ls2 hl2 => ?_)
    exact h ad cA tys H locs cells slots ls2 I (lst_set1 (v := pI x) hk hl2) (by rw [set1_len]; exact hn) (vt1 hst) (pl_set1 hk (vh1 hst) hpl)
  case astore_n k =>
    obtain ⟨rfl, hk, x, st1, rfl, h⟩ := h
    intro ad cA tys H locs cells slots ls I hl hn hst hpl
    refine lv_astore_n hx hb hd rfl hl (by rw [← hn]; exact hk) rfl (fun ls2 hl2 => ?_)
    exact h ad cA tys H locs cells slots ls2 I (lst_set1 (v := pR x) hk hl2) (by rw [set1_len]; exact hn) (vt1 hst) (pl_set1 hk (vh1 hst) hpl)
  case astore k =>
    obtain ⟨rfl, hk, x, st1, rfl, h⟩ := h
    intro ad cA tys H locs cells slots ls I hl hn hst hpl
    refine lv_astore hx hb hd hl (by rw [← hn]; exact hk) rfl (fun ls2 hl2 => ?_)
    exact h ad cA tys H locs cells slots ls2 I (lst_set1 (v := pR x) hk hl2) (by rw [set1_len]; exact hn) (vt1 hst) (pl_set1 hk (vh1 hst) hpl)
  case lstore_n k =>
    obtain ⟨rfl, hk, x, st1, rfl, h⟩ := h
    intro ad cA tys H locs cells slots ls I hl hn hst hpl
    refine lv_lstore_n hx hb hd rfl hl (by rw [← hn]; exact hk) rfl (fun ls2 hl2 => ?_)
    exact h ad cA tys H locs cells slots ls2 I (lst_set2 (v := pL x) hk hl2) (by rw [set2_len]; exact hn) (vt1 hst) (pl_set2 hk (vh1 hst) hpl)
  case lstore k =>
    obtain ⟨rfl, hk, x, st1, rfl, h⟩ := h
    intro ad cA tys H locs cells slots ls I hl hn hst hpl
    refine lv_lstore hx hb hd hl (by rw [← hn]; exact hk) rfl (fun ls2 hl2 => ?_)
    exact h ad cA tys H locs cells slots ls2 I (lst_set2 (v := pL x) hk hl2) (by rw [set2_len]; exact hn) (vt1 hst) (pl_set2 hk (vh1 hst) hpl)
  case iinc k n =>
    obtain ⟨rfl, hk, x, hg, h⟩ := h
    intro ad cA tys H locs cells slots ls I hl hn hst hpl
    obtain ⟨k9, hk9⟩ := lst_idx (ad := ad) hg
    refine lv_iinc (v := Int32.ofInt (w32 (x + n))) hx hb hd hl hk9 (oI_add x n) (by rw [← hn]; exact hk) rfl (fun ls2 hl2 => ?_)
    exact h ad cA tys H locs cells slots ls2 I (lst_set1 (v := pI (w32 (x + n))) hk hl2) (by rw [set1_len]; exact hn) hst (pl_set1 hk (r32_w _) hpl)
  case dup =>
    obtain ⟨rfl, v, st1, rfl, hv, h⟩ := h
    intro ad cA tys H locs cells slots ls I hl hn hst hpl
    refine lv_dup hx hb hd (by rw [val_cat, hv]; rfl) ?_
    exact h ad cA tys H locs cells slots ls I hl hn (vk1 (vh1 hst) hst) hpl
  case pop =>
    obtain ⟨rfl, v, st1, rfl, hv, h⟩ := h
    intro ad cA tys H locs cells slots ls I hl hn hst hpl
    refine lv_pop hx hb hd (va := val ad v) (by rw [val_cat, hv]; rfl) ?_
    exact h ad cA tys H locs cells slots ls I hl hn (vt1 hst) hpl
  case dup_x1 =>
    obtain ⟨rfl, v, st1, rfl, w, st2, rfl, hv, hw, h⟩ := h
    intro ad cA tys H locs cells slots ls I hl hn hst hpl
    refine lv_dup_x1 hx hb hd (by rw [val_cat, hv]; rfl) (by rw [val_cat, hw]; rfl) ?_
    exact h ad cA tys H locs cells slots ls I hl hn (vk1 (vh1 hst) (vk1 (vh1 (vt1 hst)) (vk1 (vh1 hst) (vt1 (vt1 hst))))) hpl
  case dup2 =>
    obtain ⟨rfl, v, st1, rfl, ⟨hv, h⟩ | ⟨hv, w, st2, rfl, hw, h⟩⟩ := h
    · intro ad cA tys H locs cells slots ls I hl hn hst hpl
      refine lv_dup2_2 hx hb hd (by rw [val_cat, hv]; rfl) ?_
      exact h ad cA tys H locs cells slots ls I hl hn (vk1 (vh1 hst) hst) hpl
    · intro ad cA tys H locs cells slots ls I hl hn hst hpl
      refine lv_dup2_11 hx hb hd (by rw [val_cat, hv]; rfl) (by rw [val_cat, hw]; rfl) ?_
      exact h ad cA tys H locs cells slots ls I hl hn (vk1 (vh1 hst) (vk1 (vh1 (vt1 hst)) hst)) hpl
  case ifCond cnd off =>
    cases cnd
    case eq =>
      obtain ⟨rfl, x, st1, rfl, h0, ht, hf⟩ := h
      intro ad cA tys H locs cells slots ls I hl hn hst hpl
      have hr := vhI hst
      refine lv_if_eq (x := Int32.ofInt x) hx hb hd (tg_ok h0) (fun q => ?_) (fun q => ?_)
      · exact ht ((oI_eq0 hr).mp q) ad cA tys H locs cells slots ls I hl hn (vt1 hst) hpl
      · exact hf (fun z => q ((oI_eq0 hr).mpr z)) ad cA tys H locs cells slots ls I hl hn (vt1 hst) hpl
    case ne =>
      obtain ⟨rfl, x, st1, rfl, h0, ht, hf⟩ := h
      intro ad cA tys H locs cells slots ls I hl hn hst hpl
      have hr := vhI hst
      refine lv_if_ne (x := Int32.ofInt x) hx hb hd (tg_ok h0) (fun q => ?_) (fun q => ?_)
      · exact ht (fun z => q ((oI_eq0 hr).mpr z)) ad cA tys H locs cells slots ls I hl hn (vt1 hst) hpl
      · exact hf (fun z => z ((oI_eq0 hr).mp q)) ad cA tys H locs cells slots ls I hl hn (vt1 hst) hpl
    case lt =>
      obtain ⟨rfl, x, st1, rfl, h0, ht, hf⟩ := h
      intro ad cA tys H locs cells slots ls I hl hn hst hpl
      have hr := vhI hst
      refine lv_if_lt (x := Int32.ofInt x) hx hb hd (tg_ok h0) (fun q => ?_) (fun q => ?_)
      · exact ht ((oI_lt0 hr).mp q) ad cA tys H locs cells slots ls I hl hn (vt1 hst) hpl
      · exact hf (fun z => q ((oI_lt0 hr).mpr z)) ad cA tys H locs cells slots ls I hl hn (vt1 hst) hpl
    case ge =>
      obtain ⟨rfl, x, st1, rfl, h0, ht, hf⟩ := h
      intro ad cA tys H locs cells slots ls I hl hn hst hpl
      have hr := vhI hst
      refine lv_if_ge (x := Int32.ofInt x) hx hb hd (tg_ok h0) (fun q => ?_) (fun q => ?_)
      · exact ht ((oI_0le hr).mp q) ad cA tys H locs cells slots ls I hl hn (vt1 hst) hpl
      · exact hf (fun z => q ((oI_0le hr).mpr z)) ad cA tys H locs cells slots ls I hl hn (vt1 hst) hpl
    case gt =>
      obtain ⟨rfl, x, st1, rfl, h0, ht, hf⟩ := h
      intro ad cA tys H locs cells slots ls I hl hn hst hpl
      have hr := vhI hst
      refine lv_if_gt (x := Int32.ofInt x) hx hb hd (tg_ok h0) (fun q => ?_) (fun q => ?_)
      · exact ht ((oI_0lt hr).mp q) ad cA tys H locs cells slots ls I hl hn (vt1 hst) hpl
      · exact hf (fun z => q ((oI_0lt hr).mpr z)) ad cA tys H locs cells slots ls I hl hn (vt1 hst) hpl
    case le =>
      obtain ⟨rfl, x, st1, rfl, h0, ht, hf⟩ := h
      intro ad cA tys H locs cells slots ls I hl hn hst hpl
      have hr := vhI hst
      refine lv_if_le (x := Int32.ofInt x) hx hb hd (tg_ok h0) (fun q => ?_) (fun q => ?_)
      · exact ht ((oI_le0 hr).mp q) ad cA tys H locs cells slots ls I hl hn (vt1 hst) hpl
      · exact hf (fun z => q ((oI_le0 hr).mpr z)) ad cA tys H locs cells slots ls I hl hn (vt1 hst) hpl
  case if_icmp cnd off =>
    cases cnd
    case eq =>
      obtain ⟨rfl, y, st1, rfl, x, st2, rfl, h0, ht, hf⟩ := h
      intro ad cA tys H locs cells slots ls I hl hn hst hpl
      have hr := vhI hst
      have hr2 := vhI (vt1 hst)
      refine lv_icmp_eq (x := Int32.ofInt x) (y := Int32.ofInt y) hx hb hd (tg_ok h0) (fun q => ?_) (fun q => ?_)
      · exact ht ((oI_eq hr2 hr).mp q) ad cA tys H locs cells slots ls I hl hn (vt1 (vt1 hst)) hpl
      · exact hf (fun z => q ((oI_eq hr2 hr).mpr z)) ad cA tys H locs cells slots ls I hl hn (vt1 (vt1 hst)) hpl
    case ne =>
      obtain ⟨rfl, y, st1, rfl, x, st2, rfl, h0, ht, hf⟩ := h
      intro ad cA tys H locs cells slots ls I hl hn hst hpl
      have hr := vhI hst
      have hr2 := vhI (vt1 hst)
      refine lv_icmp_ne (x := Int32.ofInt x) (y := Int32.ofInt y) hx hb hd (tg_ok h0) (fun q => ?_) (fun q => ?_)
      · exact ht (fun z => q ((oI_eq hr2 hr).mpr z)) ad cA tys H locs cells slots ls I hl hn (vt1 (vt1 hst)) hpl
      · exact hf (fun z => z ((oI_eq hr2 hr).mp q)) ad cA tys H locs cells slots ls I hl hn (vt1 (vt1 hst)) hpl
    case lt =>
      obtain ⟨rfl, y, st1, rfl, x, st2, rfl, h0, ht, hf⟩ := h
      intro ad cA tys H locs cells slots ls I hl hn hst hpl
      have hr := vhI hst
      have hr2 := vhI (vt1 hst)
      refine lv_icmp_lt (x := Int32.ofInt x) (y := Int32.ofInt y) hx hb hd (tg_ok h0) (fun q => ?_) (fun q => ?_)
      · exact ht ((oI_lt hr2 hr).mp q) ad cA tys H locs cells slots ls I hl hn (vt1 (vt1 hst)) hpl
      · exact hf (fun z => q ((oI_lt hr2 hr).mpr z)) ad cA tys H locs cells slots ls I hl hn (vt1 (vt1 hst)) hpl
    case ge =>
      obtain ⟨rfl, y, st1, rfl, x, st2, rfl, h0, ht, hf⟩ := h
      intro ad cA tys H locs cells slots ls I hl hn hst hpl
      have hr := vhI hst
      have hr2 := vhI (vt1 hst)
      refine lv_icmp_ge (x := Int32.ofInt x) (y := Int32.ofInt y) hx hb hd (tg_ok h0) (fun q => ?_) (fun q => ?_)
      · exact ht ((oI_le hr hr2).mp q) ad cA tys H locs cells slots ls I hl hn (vt1 (vt1 hst)) hpl
      · exact hf (fun z => q ((oI_le hr hr2).mpr z)) ad cA tys H locs cells slots ls I hl hn (vt1 (vt1 hst)) hpl
    case gt =>
      obtain ⟨rfl, y, st1, rfl, x, st2, rfl, h0, ht, hf⟩ := h
      intro ad cA tys H locs cells slots ls I hl hn hst hpl
      have hr := vhI hst
      have hr2 := vhI (vt1 hst)
      refine lv_icmp_gt (x := Int32.ofInt x) (y := Int32.ofInt y) hx hb hd (tg_ok h0) (fun q => ?_) (fun q => ?_)
      · exact ht ((oI_lt hr hr2).mp q) ad cA tys H locs cells slots ls I hl hn (vt1 (vt1 hst)) hpl
      · exact hf (fun z => q ((oI_lt hr hr2).mpr z)) ad cA tys H locs cells slots ls I hl hn (vt1 (vt1 hst)) hpl
    case le =>
      obtain ⟨rfl, y, st1, rfl, x, st2, rfl, h0, ht, hf⟩ := h
      intro ad cA tys H locs cells slots ls I hl hn hst hpl
      have hr := vhI hst
      have hr2 := vhI (vt1 hst)
      refine lv_icmp_le (x := Int32.ofInt x) (y := Int32.ofInt y) hx hb hd (tg_ok h0) (fun q => ?_) (fun q => ?_)
      · exact ht ((oI_le hr2 hr).mp q) ad cA tys H locs cells slots ls I hl hn (vt1 (vt1 hst)) hpl
      · exact hf (fun z => q ((oI_le hr2 hr).mpr z)) ad cA tys H locs cells slots ls I hl hn (vt1 (vt1 hst)) hpl
  case goto off =>
    obtain ⟨rfl, h0, h⟩ := h
    intro ad cA tys H locs cells slots ls I hl hn hst hpl
    refine lv_goto hx hb hd (tg_ok h0) ?_
    exact h ad cA tys H locs cells slots ls I hl hn hst hpl
  case tableswitch d lo hi offs =>
    obtain ⟨⟨hlh, hsz⟩, x, st1, rfl, h0, h⟩ := h
    intro ad cA tys H locs cells slots ls I hl hn hst hpl
    have hr := vhI hst
    by_cases hq : x < lo ∨ hi < x
    · refine lv_tableOut (x := Int32.ofInt x) hx hb hd (by rw [oI_toInt hr]; exact hq) (tgt := tg pc (swo d lo hi offs.toList x)) ?_ ?_
      · rw [← tg_ok h0]; unfold swo; rw [if_pos hq]
      · exact h ad cA tys H locs cells slots ls I hl hn (vt1 hst) hpl
    · refine lv_tableIn (x := Int32.ofInt x) (off := swo d lo hi offs.toList x) hx hb hd (by rw [oI_toInt hr]; omega) (by rw [oI_toInt hr]; omega) (by rw [oI_toInt hr]; exact swo_in (by omega) (by omega) hsz) (tg_ok h0) ?_
      exact h ad cA tys H locs cells slots ls I hl hn (vt1 hst) hpl
  case lookupswitch d ps =>
    obtain ⟨hp9, x, st1, rfl, h0, h⟩ := h
    intro ad cA tys H locs cells slots ls I hl hn hst hpl
    have hr := vhI hst
    refine lv_lookup (x := Int32.ofInt x) (off := Op.lookupswitch.offset ps.toList d x) hx hb hd hp9 (by rw [oI_toInt hr]) (tg_ok h0) ?_
    exact h ad cA tys H locs cells slots ls I hl hn (vt1 hst) hpl
  all_goals (cases hS; done)
