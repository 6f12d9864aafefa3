/-! THE CLAIM OUT OF ONE WALK OF THE LAW'S BODY. Your part is whole_start (and what it stands on); all else here is the same for every law, but numbers. -/
def R_law : String := "BuriedWithItLaw"
def lw_P (b : Addr) (xs : List Int32) (args : Array Value) (s : State) : Prop := args = #[.ref b] ∧ s.IntsAt b xs ∧ xs.length ≤ 2560 ∧ (Jvm.Cond.and given_1 narrow_1).before args s = true
def lw_Q (_ : Array Value) (s : State) (o : Outcome) (t : State) : Prop := o = .returned (some (.int 1)) ∧ Framed s o t [] 601024 7293034
def lw_Z (below : List Frame) (a : Array Value) (s : State) : State → Prop := fun t => ∃ o, t.status = .running ∧ Ended t below o ∧ lw_Q a s o t
/-- the law's own end, with 1 on the stack, nothing written that was there before, its room as the claim has it -/
theorem lw_ret {p : Program} {l : Launch} {e : Env} {s : State} {m : MethodId} {below : List Frame} {meth : Method} {c : Code} {b : Nat} (hx : p.tables.exec = Jvm.exec) (hb : c.code = code) (hr : meth.sig.returnType = ret) (hlocks : meth.locks = false) {pc : Nat} {H : Heap} {ls : Array Slot} (hdg : decode code pc = .ok (.ireturn, 1)) : W p l e room_1 s m #[Value.ref b] below meth c H [] 601024 7293034 (lw_Z below #[Value.ref b] s) (F0 m pc ls [.int 1]) := by
  intro T hT X
  obtain ⟨fs, hret, hrun, hended, hW, hframe⟩ := X.leave (v := some (.int 1)) (hlocks := hlocks) (fun h => by rw [hr] at h; cases h)
  have hmeth' : T.vm.method? m = some meth := X.method'
  refine ⟨T.setFrames fs, ?_, .returned (some (.int 1)), hrun, hended, rfl, ⟨_, rfl⟩, hW, hframe⟩
  jvm_step X.here [X.here.top, hx, hb, hdg, hmeth', hr, ret, narrow_b1]
  (try refine ⟨rfl, ?_⟩); (try refine ⟨rfl, ?_⟩)
  first | (intro acts; rw [hret _ acts rfl rfl rfl]) | rw [hret _ _ rfl rfl rfl]
  exact Steps.refl _
/-- what holds at the law's entry: the machine, the code, the tables' words (any of lw_tbl by 'hts w (by decide +kernel)'), the script of L ints xs at the cell b, what the Statement gives of the start (any of its parts by flat_of_before) -/
def lw_At (p : Program) (s : State) (m : MethodId) (meth : Method) (c : Code) (b L : Nat) (xs : Nat → Int32) : Prop :=
  p.tables.exec = Jvm.exec ∧ c.code = code ∧ meth.sig.returnType = ret ∧ c.maxLocals = 8 ∧ s.vm.findClass R_law = some m.cls ∧ (∀ w ∈ lw_tbl, w.before #[Value.ref b] s = true) ∧ va_X b L xs s s.heap ∧ b < s.heap.size ∧ meth.locks = false ∧ (Jvm.Cond.and given_1 narrow_1).before #[Value.ref b] s = true
theorem d_law_39 : decode code 39 = .ok (.tableswitch 1453 0 45 #[197, 222, 247, 260, 273, 286, 354, 422, 459, 484, 545, 570, 595, 632, 669, 706, 719, 732, 757, 770, 807, 833, 858, 871, 884, 921, 947, 972, 985, 1010, 1035, 1060, 1085, 1122, 1135, 1148, 1161, 1186, 1235, 1248, 1273, 1286, 1323, 1348, 1373, 1398], 197) := by decide +kernel
section
variable {p : Program} {l : Launch} {e : Env} {s : State} {m : MethodId} {below : List Frame} {meth : Method} {c : Code} {D : va_G} {q1 q2 oa b Ls : Nat} {xs : Nat → Int32}
/-- 63 and a number, as a number of the switch -/
theorem and63 (x : Int32) : 0 ≤ (x &&& 63).toInt ∧ (x &&& 63).toInt ≤ 63 := by
  have h1 : (x &&& 63).toBitVec.toNat ≤ 63 := by
    rw [Int32.toBitVec_and, BitVec.toNat_and]
    exact Nat.and_le_right
  have h2 : (x &&& 63).toInt = ((x &&& 63).toBitVec.toNat : Int) := by
    show (x &&& 63).toBitVec.toInt = _
    rw [BitVec.toInt_eq_toNat_cond, if_pos (by omega)]
  omega
/-- the loop: i ints are read, t calls made of each -/
theorem law_loop (C : Lc p s m c b Ls xs) (hTh : Th (AS s) s) (hl9 : l.stackTraces = false) (hr : meth.sig.returnType = ret) (hlocks : meth.locks = false) : ∀ (n i t : Nat) (P Q : PM) (M N : MM) (xo : Int64) (H : Heap) (locs : List Loc) (cells slots : Nat) (ls : Array Slot), Ls < i + n → i ≤ Ls → t ≤ i → cells ≤ 1000 + i → slots ≤ 10000 + 2 * i → lv_has ls 8 (lsB b q1 q2 oa i) → Both D s H q1 q2 oa P M Q N xo → Rel t P Q M N → va_S (AS s) s.heap H locs → W p l e room_1 s m #[Value.ref b] below meth c H locs cells slots (lw_Z below #[Value.ref b] s) (F0 m 23 ls []) := by
  intro n
  induction n with
  | zero => intro i t P Q M N xo H locs cells slots ls h1 h2; omega
  | succ n ih =>
    intro i t P Q M N xo H locs cells slots ls h1 h2 h3 h4 h5 hl hB hRel hS
    obtain ⟨G, hX, hbl, hL⟩ := id C
    obtain ⟨gx, gb, _⟩ := id G
    have hbA : ¬ AS s b := Nat.not_le.mpr hbl
    refine lv_iload gx gb (by decide +kernel : decode code 23 = .ok (.iload 4, 2)) (lv_at hl 4 rfl) ?_
    refine lv_aload_n gx gb (by decide +kernel : decode code 25 = .ok (.aload_n 0, 1)) rfl (lv_at hl 0 rfl) ?_
    refine va_slen gx gb hX hbl hbA hS (by decide +kernel : decode code 26 = .ok (.arraylength, 1)) ?_
    refine lv_iconst (v := 5) gx gb (by decide +kernel : decode code 27 = .ok (.iconst 5, 1)) rfl ?_
    refine lv_isub gx gb (by decide +kernel : decode code 28 = .ok (.isub, 1)) ?_
    have e5 : Int32.ofNat Ls - 5 = Int32.ofInt ((Ls : Int) - 5) := by
      rw [show Int32.ofNat Ls = Int32.ofInt (Ls : Int) from rfl, show (5 : Int32) = Int32.ofInt 5 from rfl, oI_sub, w32_id (by unfold r32; omega)]
    have e4 : nI i = Int32.ofInt (i : Int) := rfl
    have cmp : Int32.ofNat Ls - 5 < nI i ↔ (Ls : Int) - 5 < i := by
      rw [e5, e4]
      exact oI_lt (by unfold r32; omega) (by unfold r32; omega)
    refine lv_icmp_gt (tgt := 1498) gx gb (by decide +kernel : decode code 29 = .ok (.if_icmp .gt 1469, 3)) (by decide) (fun c9 => ?_) (fun c9 => ?_)
    · refine lv_iconst (v := 1) gx gb (by decide +kernel : decode code 1498 = .ok (.iconst 1, 1)) rfl ?_
      refine va_forget (fun q hq => hS.2.2 q hq) ?_
      refine W.widen (k := 601024) (n := 7293034) (by omega) (by omega) ?_
      exact lw_ret gx gb hr hlocks (by decide +kernel : decode code 1499 = .ok (.ireturn, 1))
    · have hi : i + 5 ≤ Ls := by
        rw [cmp] at c9
        omega
      refine lv_aload_n gx gb (by decide +kernel : decode code 32 = .ok (.aload_n 0, 1)) rfl (lv_at hl 0 rfl) ?_
      refine lv_iload gx gb (by decide +kernel : decode code 33 = .ok (.iload 4, 2)) (lv_at hl 4 rfl) ?_
      refine va_sld gx gb hX hbl hbA hS (vp_in_nI (by omega) (by omega)) (by decide +kernel : decode code 35 = .ok (.iaload, 1)) ?_
      refine lv_bipush (v := 63) gx gb (by decide +kernel : decode code 36 = .ok (.bipush 63, 2)) (by decide) ?_
      refine lv_iand gx gb (by decide +kernel : decode code 38 = .ok (.iand, 1)) ?_
      refine lv_topi (fun x ex => ?_)
      have hx := and63 (xs (nI i).toNatClampNeg)
      rw [← ex] at hx
      obtain ⟨k, hk, hk63⟩ : ∃ k : Nat, x.toInt = (k : Int) ∧ k ≤ 63 := ⟨x.toInt.toNat, by omega, by omega⟩
      have hcs : cells + 1 ≤ 601024 ∧ slots + 6 ≤ 7293034 := ⟨by omega, by omega⟩
      have go : ∀ (t' : Nat) (H' : Heap) (locs' : List Loc) (P' : PM) (M' : MM) (Q' : PM) (N' : MM) (xo' : Int64) (ls' : Array Slot), t' ≤ i + 5 → lv_has ls' 8 (lsB b q1 q2 oa i) → Both D s H' q1 q2 oa P' M' Q' N' xo' → Rel t' P' Q' M' N' → va_S (AS s) s.heap H' locs' → W p l e room_1 s m #[Value.ref b] below meth c H' locs' (cells + 1) (slots + 6) (lw_Z below #[Value.ref b] s) (F0 m 1492 ls' []) := by
        intro t' H' locs' P' M' Q' N' xo' ls' ht' hl' hB' hR' hS'
        refine lv_iinc (v := nI (i + 5)) (lv' := [(4, .int (nI (i + 5))), (0, .ref b), (1, .ref q1), (2, .ref q2), (3, .ref oa)]) gx gb (by decide +kernel : decode code 1492 = .ok (.iinc 4 5, 3)) hl' (k := 4) rfl (nI_add i 5) (by decide) rfl (fun ls2 hl2 => ?_)
        refine lv_goto (tgt := 23) gx gb (by decide +kernel : decode code 1495 = .ok (.goto (-1472), 3)) (by decide) ?_
        exact ih (i + 5) t' P' Q' M' N' xo' H' locs' _ _ ls2 (by omega) hi ht' (by omega) (by omega) (lv_sub hl2 [1, 2, 3, 4, 0] rfl) hB' hR' hS'
      have kon : Kont p l e s m below meth c D (lw_Z below #[Value.ref b] s) q1 q2 oa b i t cells slots := fun H' locs' P' M' Q' N' xo' ls' hl' hB' hR' hS' => go (t + 1) H' locs' P' M' Q' N' xo' ls' (by omega) hl' hB' hR' hS'
      have ht : t < 1000000 := by omega
      by_cases hk45 : 45 < k
      · refine lv_tableOut (tgt := 1492) gx gb d_law_39 (Or.inr (by omega)) (by decide) ?_
        exact W.widen (Nat.le_succ _) (Nat.le_add_right _ _) (go t H locs P M Q N xo ls (by omega) hl hB hRel hS)
      have sw : ∀ (off : Int) (tgt : Nat), (#[197, 222, 247, 260, 273, 286, 354, 422, 459, 484, 545, 570, 595, 632, 669, 706, 719, 732, 757, 770, 807, 833, 858, 871, 884, 921, 947, 972, 985, 1010, 1035, 1060, 1085, 1122, 1135, 1148, 1161, 1186, 1235, 1248, 1273, 1286, 1323, 1348, 1373, 1398] : Array Int)[k]? = some off → ((39 : Nat) : Int) + off = (tgt : Int) → W p l e room_1 s m #[Value.ref b] below meth c H locs cells slots (lw_Z below #[Value.ref b] s) (F0 m tgt ls []) → W p l e room_1 s m #[Value.ref b] below meth c H locs cells slots (lw_Z below #[Value.ref b] s) (F0 m 39 ls [.int x]) := by
        intro off tgt ho ht9 hW9
        refine lv_tableIn (off := off) (tgt := tgt) gx gb d_law_39 (by omega) (by omega) ?_ ht9 hW9
        rw [hk, show ((k : Int) - 0).toNat = k by omega]
        exact ho
      clear hk63
      by_cases hk0 : k = 0
      · subst hk0
        exact sw 197 236 rfl (by decide) (l_k0 C hTh hl9 hl hB hRel hS hcs hi ht kon)
      have g1 : 1 ≤ k := by omega
      clear hk0
      by_cases hk1 : k = 1
      · subst hk1
        exact sw 222 261 rfl (by decide) (l_k1 C hTh hl9 hl hB hRel hS hcs hi ht kon)
      have g2 : 2 ≤ k := by omega
      clear hk1 g1
      by_cases hk2 : k = 2
      · subst hk2
        exact sw 247 286 rfl (by decide) (l_k2 C hTh hl9 hl hB hRel hS hcs hi ht kon)
      have g3 : 3 ≤ k := by omega
      clear hk2 g2
      by_cases hk3 : k = 3
      · subst hk3
        exact sw 260 299 rfl (by decide) (l_k3 C hTh hl9 hl hB hRel hS hcs hi ht kon)
      have g4 : 4 ≤ k := by omega
      clear hk3 g3
      by_cases hk4 : k = 4
      · subst hk4
        exact sw 273 312 rfl (by decide) (l_k4 C hTh hl9 hl hB hRel hS hcs hi ht kon)
      have g5 : 5 ≤ k := by omega
      clear hk4 g4
      by_cases hk5 : k = 5
      · subst hk5
        exact sw 286 325 rfl (by decide) (l_k5 C hTh hl9 hl hB hRel hS hcs hi ht kon)
      have g6 : 6 ≤ k := by omega
      clear hk5 g5
      by_cases hk6 : k = 6
      · subst hk6
        exact sw 354 393 rfl (by decide) (l_k6 C hTh hl9 hl hB hRel hS hcs hi ht kon)
      have g7 : 7 ≤ k := by omega
      clear hk6 g6
      by_cases hk7 : k = 7
      · subst hk7
        exact sw 422 461 rfl (by decide) (l_k7 C hTh hl9 hl hB hRel hS hcs hi ht kon)
      have g8 : 8 ≤ k := by omega
      clear hk7 g7
      by_cases hk8 : k = 8
      · subst hk8
        exact sw 459 498 rfl (by decide) (l_k8 C hTh hl9 hl hB hRel hS hcs hi ht kon)
      have g9 : 9 ≤ k := by omega
      clear hk8 g8
      by_cases hk9 : k = 9
      · subst hk9
        exact sw 484 523 rfl (by decide) (l_k9 C hTh hl9 hl hB hRel hS hcs hi ht kon)
      have g10 : 10 ≤ k := by omega
      clear hk9 g9
      by_cases hk10 : k = 10
      · subst hk10
        exact sw 545 584 rfl (by decide) (l_k10 C hTh hl9 hl hB hRel hS hcs hi ht kon)
      have g11 : 11 ≤ k := by omega
      clear hk10 g10
      by_cases hk11 : k = 11
      · subst hk11
        exact sw 570 609 rfl (by decide) (l_k11 C hTh hl9 hl hB hRel hS hcs hi ht kon)
      have g12 : 12 ≤ k := by omega
      clear hk11 g11
      by_cases hk12 : k = 12
      · subst hk12
        exact sw 595 634 rfl (by decide) (l_k12 C hTh hl9 hl hB hRel hS hcs hi ht kon)
      have g13 : 13 ≤ k := by omega
      clear hk12 g12
      by_cases hk13 : k = 13
      · subst hk13
        exact sw 632 671 rfl (by decide) (l_k13 C hTh hl9 hl hB hRel hS hcs hi ht kon)
      have g14 : 14 ≤ k := by omega
      clear hk13 g13
      by_cases hk14 : k = 14
      · subst hk14
        exact sw 669 708 rfl (by decide) (l_k14 C hTh hl9 hl hB hRel hS hcs hi ht kon)
      have g15 : 15 ≤ k := by omega
      clear hk14 g14
      by_cases hk15 : k = 15
      · subst hk15
        exact sw 706 745 rfl (by decide) (l_k15 C hTh hl9 hl hB hRel hS hcs hi ht kon)
      have g16 : 16 ≤ k := by omega
      clear hk15 g15
      by_cases hk16 : k = 16
      · subst hk16
        exact sw 719 758 rfl (by decide) (l_k16 C hTh hl9 hl hB hRel hS hcs hi ht kon)
      have g17 : 17 ≤ k := by omega
      clear hk16 g16
      by_cases hk17 : k = 17
      · subst hk17
        exact sw 732 771 rfl (by decide) (l_k17 C hTh hl9 hl hB hRel hS hcs hi ht kon)
      have g18 : 18 ≤ k := by omega
      clear hk17 g17
      by_cases hk18 : k = 18
      · subst hk18
        exact sw 757 796 rfl (by decide) (l_k18 C hTh hl9 hl hB hRel hS hcs hi ht kon)
      have g19 : 19 ≤ k := by omega
      clear hk18 g18
      by_cases hk19 : k = 19
      · subst hk19
        exact sw 770 809 rfl (by decide) (l_k19 C hTh hl9 hl hB hRel hS hcs hi ht kon)
      have g20 : 20 ≤ k := by omega
      clear hk19 g19
      by_cases hk20 : k = 20
      · subst hk20
        exact sw 807 846 rfl (by decide) (l_k20 C hTh hl9 hl hB hRel hS hcs hi ht kon)
      have g21 : 21 ≤ k := by omega
      clear hk20 g20
      by_cases hk21 : k = 21
      · subst hk21
        exact sw 833 872 rfl (by decide) (l_k21 C hTh hl9 hl hB hRel hS hcs hi ht kon)
      have g22 : 22 ≤ k := by omega
      clear hk21 g21
      by_cases hk22 : k = 22
      · subst hk22
        exact sw 858 897 rfl (by decide) (l_k22 C hTh hl9 hl hB hRel hS hcs hi ht kon)
      have g23 : 23 ≤ k := by omega
      clear hk22 g22
      by_cases hk23 : k = 23
      · subst hk23
        exact sw 871 910 rfl (by decide) (l_k23 C hTh hl9 hl hB hRel hS hcs hi ht kon)
      have g24 : 24 ≤ k := by omega
      clear hk23 g23
      by_cases hk24 : k = 24
      · subst hk24
        exact sw 884 923 rfl (by decide) (l_k24 C hTh hl9 hl hB hRel hS hcs hi ht kon)
      have g25 : 25 ≤ k := by omega
      clear hk24 g24
      by_cases hk25 : k = 25
      · subst hk25
        exact sw 921 960 rfl (by decide) (l_k25 C hTh hl9 hl hB hRel hS hcs hi ht kon)
      have g26 : 26 ≤ k := by omega
      clear hk25 g25
      by_cases hk26 : k = 26
      · subst hk26
        exact sw 947 986 rfl (by decide) (l_k26 C hTh hl9 hl hB hRel hS hcs hi ht kon)
      have g27 : 27 ≤ k := by omega
      clear hk26 g26
      by_cases hk27 : k = 27
      · subst hk27
        exact sw 972 1011 rfl (by decide) (l_k27 C hTh hl9 hl hB hRel hS hcs hi ht kon)
      have g28 : 28 ≤ k := by omega
      clear hk27 g27
      by_cases hk28 : k = 28
      · subst hk28
        exact sw 985 1024 rfl (by decide) (l_k28 C hTh hl9 hl hB hRel hS hcs hi ht kon)
      have g29 : 29 ≤ k := by omega
      clear hk28 g28
      by_cases hk29 : k = 29
      · subst hk29
        exact sw 1010 1049 rfl (by decide) (l_k29 C hTh hl9 hl hB hRel hS hcs hi ht kon)
      have g30 : 30 ≤ k := by omega
      clear hk29 g29
      by_cases hk30 : k = 30
      · subst hk30
        exact sw 1035 1074 rfl (by decide) (l_k30 C hTh hl9 hl hB hRel hS hcs hi ht kon)
      have g31 : 31 ≤ k := by omega
      clear hk30 g30
      by_cases hk31 : k = 31
      · subst hk31
        exact sw 1060 1099 rfl (by decide) (l_k31 C hTh hl9 hl hB hRel hS hcs hi ht kon)
      have g32 : 32 ≤ k := by omega
      clear hk31 g31
      by_cases hk32 : k = 32
      · subst hk32
        exact sw 1085 1124 rfl (by decide) (l_k32 C hTh hl9 hl hB hRel hS hcs hi ht kon)
      have g33 : 33 ≤ k := by omega
      clear hk32 g32
      by_cases hk33 : k = 33
      · subst hk33
        exact sw 1122 1161 rfl (by decide) (l_k33 C hTh hl9 hl hB hRel hS hcs hi ht kon)
      have g34 : 34 ≤ k := by omega
      clear hk33 g33
      by_cases hk34 : k = 34
      · subst hk34
        exact sw 1135 1174 rfl (by decide) (l_k34 C hTh hl9 hl hB hRel hS hcs hi ht kon)
      have g35 : 35 ≤ k := by omega
      clear hk34 g34
      by_cases hk35 : k = 35
      · subst hk35
        exact sw 1148 1187 rfl (by decide) (l_k35 C hTh hl9 hl hB hRel hS hcs hi ht kon)
      have g36 : 36 ≤ k := by omega
      clear hk35 g35
      by_cases hk36 : k = 36
      · subst hk36
        exact sw 1161 1200 rfl (by decide) (l_k36 C hTh hl9 hl hB hRel hS hcs hi ht kon)
      have g37 : 37 ≤ k := by omega
      clear hk36 g36
      by_cases hk37 : k = 37
      · subst hk37
        exact sw 1186 1225 rfl (by decide) (l_k37 C hTh hl9 hl hB hRel hS hcs hi ht kon)
      have g38 : 38 ≤ k := by omega
      clear hk37 g37
      by_cases hk38 : k = 38
      · subst hk38
        exact sw 1235 1274 rfl (by decide) (l_k38 C hTh hl9 hl hB hRel hS hcs hi ht kon)
      have g39 : 39 ≤ k := by omega
      clear hk38 g38
      by_cases hk39 : k = 39
      · subst hk39
        exact sw 1248 1287 rfl (by decide) (l_k39 C hTh hl9 hl hB hRel hS hcs hi ht kon)
      have g40 : 40 ≤ k := by omega
      clear hk39 g39
      by_cases hk40 : k = 40
      · subst hk40
        exact sw 1273 1312 rfl (by decide) (l_k40 C hTh hl9 hl hB hRel hS hcs hi ht kon)
      have g41 : 41 ≤ k := by omega
      clear hk40 g40
      by_cases hk41 : k = 41
      · subst hk41
        exact sw 1286 1325 rfl (by decide) (l_k41 C hTh hl9 hl hB hRel hS hcs hi ht kon)
      have g42 : 42 ≤ k := by omega
      clear hk41 g41
      by_cases hk42 : k = 42
      · subst hk42
        exact sw 1323 1362 rfl (by decide) (l_k42 C hTh hl9 hl hB hRel hS hcs hi ht kon)
      have g43 : 43 ≤ k := by omega
      clear hk42 g42
      by_cases hk43 : k = 43
      · subst hk43
        exact sw 1348 1387 rfl (by decide) (l_k43 C hTh hl9 hl hB hRel hS hcs hi ht kon)
      have g44 : 44 ≤ k := by omega
      clear hk43 g43
      by_cases hk44 : k = 44
      · subst hk44
        exact sw 1373 1412 rfl (by decide) (l_k44 C hTh hl9 hl hB hRel hS hcs hi ht kon)
      have g45 : 45 ≤ k := by omega
      clear hk44 g44
      by_cases hk45 : k = 45
      · subst hk45
        exact sw 1398 1437 rfl (by decide) (l_k45 C hTh hl9 hl hB hRel hS hcs hi ht kon)
      omega
end
