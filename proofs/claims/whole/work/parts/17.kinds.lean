/-! one row for each kind of instruction; by wip/gen/gen_steps.py -/
theorem zt_iadd {E : CR} {m : Nat} {Q : QT} {X : XT} {pc : Nat} {ls : PL} {st : List PV} {κ : KK} {P : PM} {M : MM} {x y : Int} (hd : decode (cod m) pc = .ok (.iadd, 1)) : wpB E m Q X pc ls (pI y :: pI x :: st) κ P M ↔ wpB E m Q X (pc + 1) ls (pI (w32 (x + y)) :: st) κ P M := by
  rw [wpB_at hd]
  simp [stepP, popI, popL, popR, popV]
theorem zt_isub {E : CR} {m : Nat} {Q : QT} {X : XT} {pc : Nat} {ls : PL} {st : List PV} {κ : KK} {P : PM} {M : MM} {x y : Int} (hd : decode (cod m) pc = .ok (.isub, 1)) : wpB E m Q X pc ls (pI y :: pI x :: st) κ P M ↔ wpB E m Q X (pc + 1) ls (pI (w32 (x - y)) :: st) κ P M := by
  rw [wpB_at hd]
  simp [stepP, popI, popL, popR, popV]
theorem zt_imul {E : CR} {m : Nat} {Q : QT} {X : XT} {pc : Nat} {ls : PL} {st : List PV} {κ : KK} {P : PM} {M : MM} {x y : Int} (hd : decode (cod m) pc = .ok (.imul, 1)) : wpB E m Q X pc ls (pI y :: pI x :: st) κ P M ↔ wpB E m Q X (pc + 1) ls (pI (w32 (x * y)) :: st) κ P M := by
  rw [wpB_at hd]
  simp [stepP, popI, popL, popR, popV]
theorem zt_iand {E : CR} {m : Nat} {Q : QT} {X : XT} {pc : Nat} {ls : PL} {st : List PV} {κ : KK} {P : PM} {M : MM} {x y : Int} (hd : decode (cod m) pc = .ok (.iand, 1)) : wpB E m Q X pc ls (pI y :: pI x :: st) κ P M ↔ wpB E m Q X (pc + 1) ls (pI (bAnd x y) :: st) κ P M := by
  rw [wpB_at hd]
  simp [stepP, popI, popL, popR, popV]
theorem zt_ior {E : CR} {m : Nat} {Q : QT} {X : XT} {pc : Nat} {ls : PL} {st : List PV} {κ : KK} {P : PM} {M : MM} {x y : Int} (hd : decode (cod m) pc = .ok (.ior, 1)) : wpB E m Q X pc ls (pI y :: pI x :: st) κ P M ↔ wpB E m Q X (pc + 1) ls (pI (bOr x y) :: st) κ P M := by
  rw [wpB_at hd]
  simp [stepP, popI, popL, popR, popV]
theorem zt_ixor {E : CR} {m : Nat} {Q : QT} {X : XT} {pc : Nat} {ls : PL} {st : List PV} {κ : KK} {P : PM} {M : MM} {x y : Int} (hd : decode (cod m) pc = .ok (.ixor, 1)) : wpB E m Q X pc ls (pI y :: pI x :: st) κ P M ↔ wpB E m Q X (pc + 1) ls (pI (bXor x y) :: st) κ P M := by
  rw [wpB_at hd]
  simp [stepP, popI, popL, popR, popV]
theorem zt_ishl {E : CR} {m : Nat} {Q : QT} {X : XT} {pc : Nat} {ls : PL} {st : List PV} {κ : KK} {P : PM} {M : MM} {x y : Int} (hd : decode (cod m) pc = .ok (.ishl, 1)) : wpB E m Q X pc ls (pI y :: pI x :: st) κ P M ↔ wpB E m Q X (pc + 1) ls (pI (bShl x y) :: st) κ P M := by
  rw [wpB_at hd]
  simp [stepP, popI, popL, popR, popV]
theorem zt_ishr {E : CR} {m : Nat} {Q : QT} {X : XT} {pc : Nat} {ls : PL} {st : List PV} {κ : KK} {P : PM} {M : MM} {x y : Int} (hd : decode (cod m) pc = .ok (.ishr, 1)) : wpB E m Q X pc ls (pI y :: pI x :: st) κ P M ↔ wpB E m Q X (pc + 1) ls (pI (bShr x y) :: st) κ P M := by
  rw [wpB_at hd]
  simp [stepP, popI, popL, popR, popV]
theorem zt_iushr {E : CR} {m : Nat} {Q : QT} {X : XT} {pc : Nat} {ls : PL} {st : List PV} {κ : KK} {P : PM} {M : MM} {x y : Int} (hd : decode (cod m) pc = .ok (.iushr, 1)) : wpB E m Q X pc ls (pI y :: pI x :: st) κ P M ↔ wpB E m Q X (pc + 1) ls (pI (bUshr x y) :: st) κ P M := by
  rw [wpB_at hd]
  simp [stepP, popI, popL, popR, popV]
theorem zt_idiv {E : CR} {m : Nat} {Q : QT} {X : XT} {pc : Nat} {ls : PL} {st : List PV} {κ : KK} {P : PM} {M : MM} {x y : Int} (hd : decode (cod m) pc = .ok (.idiv, 1)) : wpB E m Q X pc ls (pI y :: pI x :: st) κ P M ↔ (y ≠ 0 ∧ wpB E m Q X (pc + 1) ls (pI (w32 (x.tdiv y)) :: st) κ P M) := by
  rw [wpB_at hd]
  simp [stepP, popI, popL, popR, popV]
theorem zt_irem {E : CR} {m : Nat} {Q : QT} {X : XT} {pc : Nat} {ls : PL} {st : List PV} {κ : KK} {P : PM} {M : MM} {x y : Int} (hd : decode (cod m) pc = .ok (.irem, 1)) : wpB E m Q X pc ls (pI y :: pI x :: st) κ P M ↔ (y ≠ 0 ∧ wpB E m Q X (pc + 1) ls (pI (x.tmod y) :: st) κ P M) := by
  rw [wpB_at hd]
  simp [stepP, popI, popL, popR, popV]
theorem zt_ladd {E : CR} {m : Nat} {Q : QT} {X : XT} {pc : Nat} {ls : PL} {st : List PV} {κ : KK} {P : PM} {M : MM} {x y : Int} (hd : decode (cod m) pc = .ok (.ladd, 1)) : wpB E m Q X pc ls (pL y :: pL x :: st) κ P M ↔ wpB E m Q X (pc + 1) ls (pL (w64 (x + y)) :: st) κ P M := by
  rw [wpB_at hd]
  simp [stepP, popI, popL, popR, popV]
theorem zt_lsub {E : CR} {m : Nat} {Q : QT} {X : XT} {pc : Nat} {ls : PL} {st : List PV} {κ : KK} {P : PM} {M : MM} {x y : Int} (hd : decode (cod m) pc = .ok (.lsub, 1)) : wpB E m Q X pc ls (pL y :: pL x :: st) κ P M ↔ wpB E m Q X (pc + 1) ls (pL (w64 (x - y)) :: st) κ P M := by
  rw [wpB_at hd]
  simp [stepP, popI, popL, popR, popV]
theorem zt_lmul {E : CR} {m : Nat} {Q : QT} {X : XT} {pc : Nat} {ls : PL} {st : List PV} {κ : KK} {P : PM} {M : MM} {x y : Int} (hd : decode (cod m) pc = .ok (.lmul, 1)) : wpB E m Q X pc ls (pL y :: pL x :: st) κ P M ↔ wpB E m Q X (pc + 1) ls (pL (w64 (x * y)) :: st) κ P M := by
  rw [wpB_at hd]
  simp [stepP, popI, popL, popR, popV]
theorem zt_land {E : CR} {m : Nat} {Q : QT} {X : XT} {pc : Nat} {ls : PL} {st : List PV} {κ : KK} {P : PM} {M : MM} {x y : Int} (hd : decode (cod m) pc = .ok (.land, 1)) : wpB E m Q X pc ls (pL y :: pL x :: st) κ P M ↔ wpB E m Q X (pc + 1) ls (pL (lAnd x y) :: st) κ P M := by
  rw [wpB_at hd]
  simp [stepP, popI, popL, popR, popV]
theorem zt_lor {E : CR} {m : Nat} {Q : QT} {X : XT} {pc : Nat} {ls : PL} {st : List PV} {κ : KK} {P : PM} {M : MM} {x y : Int} (hd : decode (cod m) pc = .ok (.lor, 1)) : wpB E m Q X pc ls (pL y :: pL x :: st) κ P M ↔ wpB E m Q X (pc + 1) ls (pL (lOr x y) :: st) κ P M := by
  rw [wpB_at hd]
  simp [stepP, popI, popL, popR, popV]
theorem zt_lxor {E : CR} {m : Nat} {Q : QT} {X : XT} {pc : Nat} {ls : PL} {st : List PV} {κ : KK} {P : PM} {M : MM} {x y : Int} (hd : decode (cod m) pc = .ok (.lxor, 1)) : wpB E m Q X pc ls (pL y :: pL x :: st) κ P M ↔ wpB E m Q X (pc + 1) ls (pL (lXor x y) :: st) κ P M := by
  rw [wpB_at hd]
  simp [stepP, popI, popL, popR, popV]
theorem zt_ldiv {E : CR} {m : Nat} {Q : QT} {X : XT} {pc : Nat} {ls : PL} {st : List PV} {κ : KK} {P : PM} {M : MM} {x y : Int} (hd : decode (cod m) pc = .ok (.ldiv, 1)) : wpB E m Q X pc ls (pL y :: pL x :: st) κ P M ↔ (y ≠ 0 ∧ wpB E m Q X (pc + 1) ls (pL (w64 (x.tdiv y)) :: st) κ P M) := by
  rw [wpB_at hd]
  simp [stepP, popI, popL, popR, popV]
theorem zt_lrem {E : CR} {m : Nat} {Q : QT} {X : XT} {pc : Nat} {ls : PL} {st : List PV} {κ : KK} {P : PM} {M : MM} {x y : Int} (hd : decode (cod m) pc = .ok (.lrem, 1)) : wpB E m Q X pc ls (pL y :: pL x :: st) κ P M ↔ (y ≠ 0 ∧ wpB E m Q X (pc + 1) ls (pL (x.tmod y) :: st) κ P M) := by
  rw [wpB_at hd]
  simp [stepP, popI, popL, popR, popV]
theorem zt_lshl {E : CR} {m : Nat} {Q : QT} {X : XT} {pc : Nat} {ls : PL} {st : List PV} {κ : KK} {P : PM} {M : MM} {x y : Int} (hd : decode (cod m) pc = .ok (.lshl, 1)) : wpB E m Q X pc ls (pI y :: pL x :: st) κ P M ↔ wpB E m Q X (pc + 1) ls (pL (lShl x y) :: st) κ P M := by
  rw [wpB_at hd]
  simp [stepP, popI, popL, popR, popV]
theorem zt_lshr {E : CR} {m : Nat} {Q : QT} {X : XT} {pc : Nat} {ls : PL} {st : List PV} {κ : KK} {P : PM} {M : MM} {x y : Int} (hd : decode (cod m) pc = .ok (.lshr, 1)) : wpB E m Q X pc ls (pI y :: pL x :: st) κ P M ↔ wpB E m Q X (pc + 1) ls (pL (lShr x y) :: st) κ P M := by
  rw [wpB_at hd]
  simp [stepP, popI, popL, popR, popV]
theorem zt_lushr {E : CR} {m : Nat} {Q : QT} {X : XT} {pc : Nat} {ls : PL} {st : List PV} {κ : KK} {P : PM} {M : MM} {x y : Int} (hd : decode (cod m) pc = .ok (.lushr, 1)) : wpB E m Q X pc ls (pI y :: pL x :: st) κ P M ↔ wpB E m Q X (pc + 1) ls (pL (lUshr x y) :: st) κ P M := by
  rw [wpB_at hd]
  simp [stepP, popI, popL, popR, popV]
theorem zt_lcmp {E : CR} {m : Nat} {Q : QT} {X : XT} {pc : Nat} {ls : PL} {st : List PV} {κ : KK} {P : PM} {M : MM} {x y : Int} (hd : decode (cod m) pc = .ok (.lcmp, 1)) : wpB E m Q X pc ls (pL y :: pL x :: st) κ P M ↔ wpB E m Q X (pc + 1) ls (pI (lCmp x y) :: st) κ P M := by
  rw [wpB_at hd]
  simp [stepP, popI, popL, popR, popV]
theorem zt_ineg {E : CR} {m : Nat} {Q : QT} {X : XT} {pc : Nat} {ls : PL} {st : List PV} {κ : KK} {P : PM} {M : MM} {x : Int} (hd : decode (cod m) pc = .ok (.ineg, 1)) : wpB E m Q X pc ls (pI x :: st) κ P M ↔ wpB E m Q X (pc + 1) ls (pI (w32 (-x)) :: st) κ P M := by
  rw [wpB_at hd]
  simp [stepP, popI, popL, popR, popV]
theorem zt_i2l {E : CR} {m : Nat} {Q : QT} {X : XT} {pc : Nat} {ls : PL} {st : List PV} {κ : KK} {P : PM} {M : MM} {x : Int} (hd : decode (cod m) pc = .ok (.i2l, 1)) : wpB E m Q X pc ls (pI x :: st) κ P M ↔ wpB E m Q X (pc + 1) ls (pL (x) :: st) κ P M := by
  rw [wpB_at hd]
  simp [stepP, popI, popL, popR, popV]
theorem zt_l2i {E : CR} {m : Nat} {Q : QT} {X : XT} {pc : Nat} {ls : PL} {st : List PV} {κ : KK} {P : PM} {M : MM} {x : Int} (hd : decode (cod m) pc = .ok (.l2i, 1)) : wpB E m Q X pc ls (pL x :: st) κ P M ↔ wpB E m Q X (pc + 1) ls (pI (w32 x) :: st) κ P M := by
  rw [wpB_at hd]
  simp [stepP, popI, popL, popR, popV]
theorem zt_i2b {E : CR} {m : Nat} {Q : QT} {X : XT} {pc : Nat} {ls : PL} {st : List PV} {κ : KK} {P : PM} {M : MM} {x : Int} (hd : decode (cod m) pc = .ok (.i2b, 1)) : wpB E m Q X pc ls (pI x :: st) κ P M ↔ wpB E m Q X (pc + 1) ls (pI (w8 x) :: st) κ P M := by
  rw [wpB_at hd]
  simp [stepP, popI, popL, popR, popV]
theorem zt_i2s {E : CR} {m : Nat} {Q : QT} {X : XT} {pc : Nat} {ls : PL} {st : List PV} {κ : KK} {P : PM} {M : MM} {x : Int} (hd : decode (cod m) pc = .ok (.i2s, 1)) : wpB E m Q X pc ls (pI x :: st) κ P M ↔ wpB E m Q X (pc + 1) ls (pI (w16 x) :: st) κ P M := by
  rw [wpB_at hd]
  simp [stepP, popI, popL, popR, popV]
theorem zt_i2c {E : CR} {m : Nat} {Q : QT} {X : XT} {pc : Nat} {ls : PL} {st : List PV} {κ : KK} {P : PM} {M : MM} {x : Int} (hd : decode (cod m) pc = .ok (.i2c, 1)) : wpB E m Q X pc ls (pI x :: st) κ P M ↔ wpB E m Q X (pc + 1) ls (pI (x % 65536) :: st) κ P M := by
  rw [wpB_at hd]
  simp [stepP, popI, popL, popR, popV]
theorem zt_iconst {E : CR} {m : Nat} {Q : QT} {X : XT} {pc : Nat} {ls : PL} {st : List PV} {κ : KK} {P : PM} {M : MM} {n : Int} (hd : decode (cod m) pc = .ok (.iconst n, 1)) (hn : -1 ≤ n ∧ n ≤ 5) : wpB E m Q X pc ls st κ P M ↔ wpB E m Q X (pc + 1) ls (pI n :: st) κ P M := by
  rw [wpB_at hd]
  simp [stepP, hn]
theorem zt_bipush {E : CR} {m : Nat} {Q : QT} {X : XT} {pc : Nat} {ls : PL} {st : List PV} {κ : KK} {P : PM} {M : MM} {n : Int} (hd : decode (cod m) pc = .ok (.bipush n, 2)) (hn : -128 ≤ n ∧ n < 128) : wpB E m Q X pc ls st κ P M ↔ wpB E m Q X (pc + 2) ls (pI n :: st) κ P M := by
  rw [wpB_at hd]
  simp [stepP, hn]
theorem zt_sipush {E : CR} {m : Nat} {Q : QT} {X : XT} {pc : Nat} {ls : PL} {st : List PV} {κ : KK} {P : PM} {M : MM} {n : Int} (hd : decode (cod m) pc = .ok (.sipush n, 3)) (hn : -32768 ≤ n ∧ n < 32768) : wpB E m Q X pc ls st κ P M ↔ wpB E m Q X (pc + 3) ls (pI n :: st) κ P M := by
  rw [wpB_at hd]
  simp [stepP, hn]
theorem zt_lconst {E : CR} {m : Nat} {Q : QT} {X : XT} {pc : Nat} {ls : PL} {st : List PV} {κ : KK} {P : PM} {M : MM} {n : Fin 2} {v : Int} (hd : decode (cod m) pc = .ok (.lconst n, 1)) (hv : ((n : Nat) : Int) = v) : wpB E m Q X pc ls st κ P M ↔ wpB E m Q X (pc + 1) ls (pL v :: st) κ P M := by
  rw [wpB_at hd]
  simp [stepP, hv]
theorem zt_ldc {E : CR} {m : Nat} {Q : QT} {X : XT} {pc : Nat} {ls : PL} {st : List PV} {κ : KK} {P : PM} {M : MM} {i : Nat} {v : Int} (hd : decode (cod m) pc = .ok (.ldc i, 2)) (hv : IT (mow m) i = some v) : wpB E m Q X pc ls st κ P M ↔ wpB E m Q X (pc + 2) ls (pI v :: st) κ P M := by
  rw [wpB_at hd]
  simp [stepP, hv]
theorem zt_ldc_w {E : CR} {m : Nat} {Q : QT} {X : XT} {pc : Nat} {ls : PL} {st : List PV} {κ : KK} {P : PM} {M : MM} {i : Nat} {v : Int} (hd : decode (cod m) pc = .ok (.ldc_w i, 3)) (hv : IT (mow m) i = some v) : wpB E m Q X pc ls st κ P M ↔ wpB E m Q X (pc + 3) ls (pI v :: st) κ P M := by
  rw [wpB_at hd]
  simp [stepP, hv]
theorem zt_ldc2_w {E : CR} {m : Nat} {Q : QT} {X : XT} {pc : Nat} {ls : PL} {st : List PV} {κ : KK} {P : PM} {M : MM} {i : Nat} {v : Int} (hd : decode (cod m) pc = .ok (.ldc2_w i, 3)) (hv : JT (mow m) i = some v) : wpB E m Q X pc ls st κ P M ↔ wpB E m Q X (pc + 3) ls (pL v :: st) κ P M := by
  rw [wpB_at hd]
  simp [stepP, hv]
theorem zt_iload {E : CR} {m : Nat} {Q : QT} {X : XT} {pc : Nat} {ls : PL} {st : List PV} {κ : KK} {P : PM} {M : MM} {k : Nat} {x : Int} (hd : decode (cod m) pc = .ok (.iload k, 2)) (hk : ls[k]? = some (some (pI x))) : wpB E m Q X pc ls st κ P M ↔ wpB E m Q X (pc + 2) ls (pI x :: st) κ P M := by
  rw [wpB_at hd]
  simp [stepP, getI, hk]
theorem zt_iload_n {E : CR} {m : Nat} {Q : QT} {X : XT} {pc : Nat} {ls : PL} {st : List PV} {κ : KK} {P : PM} {M : MM} {k : Fin 4} {x : Int} (hd : decode (cod m) pc = .ok (.iload_n k, 1)) (hk : ls[(k : Nat)]? = some (some (pI x))) : wpB E m Q X pc ls st κ P M ↔ wpB E m Q X (pc + 1) ls (pI x :: st) κ P M := by
  rw [wpB_at hd]
  simp [stepP, getI, hk]
theorem zt_istore {E : CR} {m : Nat} {Q : QT} {X : XT} {pc : Nat} {ls : PL} {st : List PV} {κ : KK} {P : PM} {M : MM} {k : Nat} {x : Int} {ls2 : PL} (hd : decode (cod m) pc = .ok (.istore k, 2)) (hk : k < ls.length) (hs : set1 ls k (pI x) = ls2) : wpB E m Q X pc ls (pI x :: st) κ P M ↔ wpB E m Q X (pc + 2) ls2 st κ P M := by
  rw [wpB_at hd]
  subst hs
  simp [stepP, popI, popL, popR, hk]
theorem zt_istore_n {E : CR} {m : Nat} {Q : QT} {X : XT} {pc : Nat} {ls : PL} {st : List PV} {κ : KK} {P : PM} {M : MM} {k : Fin 4} {x : Int} {ls2 : PL} (hd : decode (cod m) pc = .ok (.istore_n k, 1)) (hk : (k : Nat) < ls.length) (hs : set1 ls (k : Nat) (pI x) = ls2) : wpB E m Q X pc ls (pI x :: st) κ P M ↔ wpB E m Q X (pc + 1) ls2 st κ P M := by
  rw [wpB_at hd]
  subst hs
  simp [stepP, popI, popL, popR, hk]
theorem zt_lload {E : CR} {m : Nat} {Q : QT} {X : XT} {pc : Nat} {ls : PL} {st : List PV} {κ : KK} {P : PM} {M : MM} {k : Nat} {x : Int} (hd : decode (cod m) pc = .ok (.lload k, 2)) (hk : ls[k]? = some (some (pL x))) : wpB E m Q X pc ls st κ P M ↔ wpB E m Q X (pc + 2) ls (pL x :: st) κ P M := by
  rw [wpB_at hd]
  simp [stepP, getL, hk]
theorem zt_lload_n {E : CR} {m : Nat} {Q : QT} {X : XT} {pc : Nat} {ls : PL} {st : List PV} {κ : KK} {P : PM} {M : MM} {k : Fin 4} {x : Int} (hd : decode (cod m) pc = .ok (.lload_n k, 1)) (hk : ls[(k : Nat)]? = some (some (pL x))) : wpB E m Q X pc ls st κ P M ↔ wpB E m Q X (pc + 1) ls (pL x :: st) κ P M := by
  rw [wpB_at hd]
  simp [stepP, getL, hk]
theorem zt_lstore {E : CR} {m : Nat} {Q : QT} {X : XT} {pc : Nat} {ls : PL} {st : List PV} {κ : KK} {P : PM} {M : MM} {k : Nat} {x : Int} {ls2 : PL} (hd : decode (cod m) pc = .ok (.lstore k, 2)) (hk : k + 1 < ls.length) (hs : set2 ls k (pL x) = ls2) : wpB E m Q X pc ls (pL x :: st) κ P M ↔ wpB E m Q X (pc + 2) ls2 st κ P M := by
  rw [wpB_at hd]
  subst hs
  simp [stepP, popI, popL, popR, hk]
theorem zt_lstore_n {E : CR} {m : Nat} {Q : QT} {X : XT} {pc : Nat} {ls : PL} {st : List PV} {κ : KK} {P : PM} {M : MM} {k : Fin 4} {x : Int} {ls2 : PL} (hd : decode (cod m) pc = .ok (.lstore_n k, 1)) (hk : (k : Nat) + 1 < ls.length) (hs : set2 ls (k : Nat) (pL x) = ls2) : wpB E m Q X pc ls (pL x :: st) κ P M ↔ wpB E m Q X (pc + 1) ls2 st κ P M := by
  rw [wpB_at hd]
  subst hs
  simp [stepP, popI, popL, popR, hk]
theorem zt_aload {E : CR} {m : Nat} {Q : QT} {X : XT} {pc : Nat} {ls : PL} {st : List PV} {κ : KK} {P : PM} {M : MM} {k : Nat} {x : Nat} (hd : decode (cod m) pc = .ok (.aload k, 2)) (hk : ls[k]? = some (some (pR x))) : wpB E m Q X pc ls st κ P M ↔ wpB E m Q X (pc + 2) ls (pR x :: st) κ P M := by
  rw [wpB_at hd]
  simp [stepP, getR, hk]
theorem zt_aload_n {E : CR} {m : Nat} {Q : QT} {X : XT} {pc : Nat} {ls : PL} {st : List PV} {κ : KK} {P : PM} {M : MM} {k : Fin 4} {x : Nat} (hd : decode (cod m) pc = .ok (.aload_n k, 1)) (hk : ls[(k : Nat)]? = some (some (pR x))) : wpB E m Q X pc ls st κ P M ↔ wpB E m Q X (pc + 1) ls (pR x :: st) κ P M := by
  rw [wpB_at hd]
  simp [stepP, getR, hk]
theorem zt_astore {E : CR} {m : Nat} {Q : QT} {X : XT} {pc : Nat} {ls : PL} {st : List PV} {κ : KK} {P : PM} {M : MM} {k : Nat} {x : Nat} {ls2 : PL} (hd : decode (cod m) pc = .ok (.astore k, 2)) (hk : k < ls.length) (hs : set1 ls k (pR x) = ls2) : wpB E m Q X pc ls (pR x :: st) κ P M ↔ wpB E m Q X (pc + 2) ls2 st κ P M := by
  rw [wpB_at hd]
  subst hs
  simp [stepP, popI, popL, popR, hk]
theorem zt_astore_n {E : CR} {m : Nat} {Q : QT} {X : XT} {pc : Nat} {ls : PL} {st : List PV} {κ : KK} {P : PM} {M : MM} {k : Fin 4} {x : Nat} {ls2 : PL} (hd : decode (cod m) pc = .ok (.astore_n k, 1)) (hk : (k : Nat) < ls.length) (hs : set1 ls (k : Nat) (pR x) = ls2) : wpB E m Q X pc ls (pR x :: st) κ P M ↔ wpB E m Q X (pc + 1) ls2 st κ P M := by
  rw [wpB_at hd]
  subst hs
  simp [stepP, popI, popL, popR, hk]
theorem zt_iinc {E : CR} {m : Nat} {Q : QT} {X : XT} {pc : Nat} {ls : PL} {st : List PV} {κ : KK} {P : PM} {M : MM} {k : Nat} {n x : Int} {ls2 : PL} (hd : decode (cod m) pc = .ok (.iinc k n, 3)) (hk : k < ls.length) (hg : ls[k]? = some (some (pI x))) (hs : set1 ls k (pI (w32 (x + n))) = ls2) : wpB E m Q X pc ls st κ P M ↔ wpB E m Q X (pc + 3) ls2 st κ P M := by
  rw [wpB_at hd]
  subst hs
  simp only [stepP, getI, hg]
  simp [hk]
theorem zt_dup_pI {E : CR} {m : Nat} {Q : QT} {X : XT} {pc : Nat} {ls : PL} {st : List PV} {κ : KK} {P : PM} {M : MM} {x : Int} (hd : decode (cod m) pc = .ok (.dup, 1)) : wpB E m Q X pc ls (pI x :: st) κ P M ↔ wpB E m Q X (pc + 1) ls (pI x :: pI x :: st) κ P M := by
  rw [wpB_at hd]
  simp [stepP, popV, isL]
theorem zt_pop_pI {E : CR} {m : Nat} {Q : QT} {X : XT} {pc : Nat} {ls : PL} {st : List PV} {κ : KK} {P : PM} {M : MM} {x : Int} (hd : decode (cod m) pc = .ok (.pop, 1)) : wpB E m Q X pc ls (pI x :: st) κ P M ↔ wpB E m Q X (pc + 1) ls st κ P M := by
  rw [wpB_at hd]
  simp [stepP, popV, isL]
theorem zt_dup_pR {E : CR} {m : Nat} {Q : QT} {X : XT} {pc : Nat} {ls : PL} {st : List PV} {κ : KK} {P : PM} {M : MM} {x : Nat} (hd : decode (cod m) pc = .ok (.dup, 1)) : wpB E m Q X pc ls (pR x :: st) κ P M ↔ wpB E m Q X (pc + 1) ls (pR x :: pR x :: st) κ P M := by
  rw [wpB_at hd]
  simp [stepP, popV, isL]
theorem zt_pop_pR {E : CR} {m : Nat} {Q : QT} {X : XT} {pc : Nat} {ls : PL} {st : List PV} {κ : KK} {P : PM} {M : MM} {x : Nat} (hd : decode (cod m) pc = .ok (.pop, 1)) : wpB E m Q X pc ls (pR x :: st) κ P M ↔ wpB E m Q X (pc + 1) ls st κ P M := by
  rw [wpB_at hd]
  simp [stepP, popV, isL]
theorem zt_dup_x1 {E : CR} {m : Nat} {Q : QT} {X : XT} {pc : Nat} {ls : PL} {st : List PV} {κ : KK} {P : PM} {M : MM} {x : Int} {o : Nat} (hd : decode (cod m) pc = .ok (.dup_x1, 1)) : wpB E m Q X pc ls (pI x :: pR o :: st) κ P M ↔ wpB E m Q X (pc + 1) ls (pI x :: pR o :: pI x :: st) κ P M := by
  rw [wpB_at hd]
  simp [stepP, popV, isL]
theorem zt_dup2_IR {E : CR} {m : Nat} {Q : QT} {X : XT} {pc : Nat} {ls : PL} {st : List PV} {κ : KK} {P : PM} {M : MM} {x : Int} {o : Nat} (hd : decode (cod m) pc = .ok (.dup2, 1)) : wpB E m Q X pc ls (pI x :: pR o :: st) κ P M ↔ wpB E m Q X (pc + 1) ls (pI x :: pR o :: pI x :: pR o :: st) κ P M := by
  rw [wpB_at hd]
  simp [stepP, popV, isL]
theorem zt_dup2_L {E : CR} {m : Nat} {Q : QT} {X : XT} {pc : Nat} {ls : PL} {st : List PV} {κ : KK} {P : PM} {M : MM} {x : Int} (hd : decode (cod m) pc = .ok (.dup2, 1)) : wpB E m Q X pc ls (pL x :: st) κ P M ↔ wpB E m Q X (pc + 1) ls (pL x :: pL x :: st) κ P M := by
  rw [wpB_at hd]
  simp [stepP, popV, isL]
theorem zt_if_eq {E : CR} {m : Nat} {Q : QT} {X : XT} {pc : Nat} {ls : PL} {st : List PV} {κ : KK} {P : PM} {M : MM} {x off : Int} {t : Nat} (hd : decode (cod m) pc = .ok (.ifCond .eq off, 3)) (ht : (pc : Int) + off = (t : Int)) : wpB E m Q X pc ls (pI x :: st) κ P M ↔ ((x = 0 → wpB E m Q X t ls st κ P M) ∧ (¬ (x = 0) → wpB E m Q X (pc + 3) ls st κ P M)) := by
  rw [wpB_at hd]
  have e1 : tg pc off = t := by unfold tg; omega
  have e2 : 0 ≤ (pc : Int) + off := by omega
  simp [stepP, popI, br, e1, e2]
theorem zt_if_ne {E : CR} {m : Nat} {Q : QT} {X : XT} {pc : Nat} {ls : PL} {st : List PV} {κ : KK} {P : PM} {M : MM} {x off : Int} {t : Nat} (hd : decode (cod m) pc = .ok (.ifCond .ne off, 3)) (ht : (pc : Int) + off = (t : Int)) : wpB E m Q X pc ls (pI x :: st) κ P M ↔ ((x ≠ 0 → wpB E m Q X t ls st κ P M) ∧ (¬ (x ≠ 0) → wpB E m Q X (pc + 3) ls st κ P M)) := by
  rw [wpB_at hd]
  have e1 : tg pc off = t := by unfold tg; omega
  have e2 : 0 ≤ (pc : Int) + off := by omega
  simp [stepP, popI, br, e1, e2]
theorem zt_if_lt {E : CR} {m : Nat} {Q : QT} {X : XT} {pc : Nat} {ls : PL} {st : List PV} {κ : KK} {P : PM} {M : MM} {x off : Int} {t : Nat} (hd : decode (cod m) pc = .ok (.ifCond .lt off, 3)) (ht : (pc : Int) + off = (t : Int)) : wpB E m Q X pc ls (pI x :: st) κ P M ↔ ((x < 0 → wpB E m Q X t ls st κ P M) ∧ (¬ (x < 0) → wpB E m Q X (pc + 3) ls st κ P M)) := by
  rw [wpB_at hd]
  have e1 : tg pc off = t := by unfold tg; omega
  have e2 : 0 ≤ (pc : Int) + off := by omega
  simp [stepP, popI, br, e1, e2]
theorem zt_if_ge {E : CR} {m : Nat} {Q : QT} {X : XT} {pc : Nat} {ls : PL} {st : List PV} {κ : KK} {P : PM} {M : MM} {x off : Int} {t : Nat} (hd : decode (cod m) pc = .ok (.ifCond .ge off, 3)) (ht : (pc : Int) + off = (t : Int)) : wpB E m Q X pc ls (pI x :: st) κ P M ↔ ((0 ≤ x → wpB E m Q X t ls st κ P M) ∧ (¬ (0 ≤ x) → wpB E m Q X (pc + 3) ls st κ P M)) := by
  rw [wpB_at hd]
  have e1 : tg pc off = t := by unfold tg; omega
  have e2 : 0 ≤ (pc : Int) + off := by omega
  simp [stepP, popI, br, e1, e2]
theorem zt_if_gt {E : CR} {m : Nat} {Q : QT} {X : XT} {pc : Nat} {ls : PL} {st : List PV} {κ : KK} {P : PM} {M : MM} {x off : Int} {t : Nat} (hd : decode (cod m) pc = .ok (.ifCond .gt off, 3)) (ht : (pc : Int) + off = (t : Int)) : wpB E m Q X pc ls (pI x :: st) κ P M ↔ ((0 < x → wpB E m Q X t ls st κ P M) ∧ (¬ (0 < x) → wpB E m Q X (pc + 3) ls st κ P M)) := by
  rw [wpB_at hd]
  have e1 : tg pc off = t := by unfold tg; omega
  have e2 : 0 ≤ (pc : Int) + off := by omega
  simp [stepP, popI, br, e1, e2]
theorem zt_if_le {E : CR} {m : Nat} {Q : QT} {X : XT} {pc : Nat} {ls : PL} {st : List PV} {κ : KK} {P : PM} {M : MM} {x off : Int} {t : Nat} (hd : decode (cod m) pc = .ok (.ifCond .le off, 3)) (ht : (pc : Int) + off = (t : Int)) : wpB E m Q X pc ls (pI x :: st) κ P M ↔ ((x ≤ 0 → wpB E m Q X t ls st κ P M) ∧ (¬ (x ≤ 0) → wpB E m Q X (pc + 3) ls st κ P M)) := by
  rw [wpB_at hd]
  have e1 : tg pc off = t := by unfold tg; omega
  have e2 : 0 ≤ (pc : Int) + off := by omega
  simp [stepP, popI, br, e1, e2]
theorem zt_icmp_eq {E : CR} {m : Nat} {Q : QT} {X : XT} {pc : Nat} {ls : PL} {st : List PV} {κ : KK} {P : PM} {M : MM} {x y off : Int} {t : Nat} (hd : decode (cod m) pc = .ok (.if_icmp .eq off, 3)) (ht : (pc : Int) + off = (t : Int)) : wpB E m Q X pc ls (pI y :: pI x :: st) κ P M ↔ ((x = y → wpB E m Q X t ls st κ P M) ∧ (¬ (x = y) → wpB E m Q X (pc + 3) ls st κ P M)) := by
  rw [wpB_at hd]
  have e1 : tg pc off = t := by unfold tg; omega
  have e2 : 0 ≤ (pc : Int) + off := by omega
  simp [stepP, popI, br, e1, e2]
theorem zt_icmp_ne {E : CR} {m : Nat} {Q : QT} {X : XT} {pc : Nat} {ls : PL} {st : List PV} {κ : KK} {P : PM} {M : MM} {x y off : Int} {t : Nat} (hd : decode (cod m) pc = .ok (.if_icmp .ne off, 3)) (ht : (pc : Int) + off = (t : Int)) : wpB E m Q X pc ls (pI y :: pI x :: st) κ P M ↔ ((x ≠ y → wpB E m Q X t ls st κ P M) ∧ (¬ (x ≠ y) → wpB E m Q X (pc + 3) ls st κ P M)) := by
  rw [wpB_at hd]
  have e1 : tg pc off = t := by unfold tg; omega
  have e2 : 0 ≤ (pc : Int) + off := by omega
  simp [stepP, popI, br, e1, e2]
theorem zt_icmp_lt {E : CR} {m : Nat} {Q : QT} {X : XT} {pc : Nat} {ls : PL} {st : List PV} {κ : KK} {P : PM} {M : MM} {x y off : Int} {t : Nat} (hd : decode (cod m) pc = .ok (.if_icmp .lt off, 3)) (ht : (pc : Int) + off = (t : Int)) : wpB E m Q X pc ls (pI y :: pI x :: st) κ P M ↔ ((x < y → wpB E m Q X t ls st κ P M) ∧ (¬ (x < y) → wpB E m Q X (pc + 3) ls st κ P M)) := by
  rw [wpB_at hd]
  have e1 : tg pc off = t := by unfold tg; omega
  have e2 : 0 ≤ (pc : Int) + off := by omega
  simp [stepP, popI, br, e1, e2]
theorem zt_icmp_ge {E : CR} {m : Nat} {Q : QT} {X : XT} {pc : Nat} {ls : PL} {st : List PV} {κ : KK} {P : PM} {M : MM} {x y off : Int} {t : Nat} (hd : decode (cod m) pc = .ok (.if_icmp .ge off, 3)) (ht : (pc : Int) + off = (t : Int)) : wpB E m Q X pc ls (pI y :: pI x :: st) κ P M ↔ ((y ≤ x → wpB E m Q X t ls st κ P M) ∧ (¬ (y ≤ x) → wpB E m Q X (pc + 3) ls st κ P M)) := by
  rw [wpB_at hd]
  have e1 : tg pc off = t := by unfold tg; omega
  have e2 : 0 ≤ (pc : Int) + off := by omega
  simp [stepP, popI, br, e1, e2]
theorem zt_icmp_gt {E : CR} {m : Nat} {Q : QT} {X : XT} {pc : Nat} {ls : PL} {st : List PV} {κ : KK} {P : PM} {M : MM} {x y off : Int} {t : Nat} (hd : decode (cod m) pc = .ok (.if_icmp .gt off, 3)) (ht : (pc : Int) + off = (t : Int)) : wpB E m Q X pc ls (pI y :: pI x :: st) κ P M ↔ ((y < x → wpB E m Q X t ls st κ P M) ∧ (¬ (y < x) → wpB E m Q X (pc + 3) ls st κ P M)) := by
  rw [wpB_at hd]
  have e1 : tg pc off = t := by unfold tg; omega
  have e2 : 0 ≤ (pc : Int) + off := by omega
  simp [stepP, popI, br, e1, e2]
theorem zt_icmp_le {E : CR} {m : Nat} {Q : QT} {X : XT} {pc : Nat} {ls : PL} {st : List PV} {κ : KK} {P : PM} {M : MM} {x y off : Int} {t : Nat} (hd : decode (cod m) pc = .ok (.if_icmp .le off, 3)) (ht : (pc : Int) + off = (t : Int)) : wpB E m Q X pc ls (pI y :: pI x :: st) κ P M ↔ ((x ≤ y → wpB E m Q X t ls st κ P M) ∧ (¬ (x ≤ y) → wpB E m Q X (pc + 3) ls st κ P M)) := by
  rw [wpB_at hd]
  have e1 : tg pc off = t := by unfold tg; omega
  have e2 : 0 ≤ (pc : Int) + off := by omega
  simp [stepP, popI, br, e1, e2]
theorem zt_goto {E : CR} {m : Nat} {Q : QT} {X : XT} {pc : Nat} {ls : PL} {st : List PV} {κ : KK} {P : PM} {M : MM} {off : Int} {t : Nat} (hd : decode (cod m) pc = .ok (.goto off, 3)) (ht : (pc : Int) + off = (t : Int)) : wpB E m Q X pc ls st κ P M ↔ wpB E m Q X t ls st κ P M := by
  rw [wpB_at hd]
  have e1 : tg pc off = t := by unfold tg; omega
  have e2 : 0 ≤ (pc : Int) + off := by omega
  simp [stepP, e1, e2]
theorem zt_get_I {E : CR} {m : Nat} {Q : QT} {X : XT} {pc : Nat} {ls : PL} {st : List PV} {κ : KK} {P : PM} {M : MM} {o i ci k : Nat} (hd : decode (cod m) pc = .ok (.getfield i, 3)) (hf : FT (mow m) i = some (ci, k, 1)) : wpB E m Q X pc ls (pR o :: st) κ P M ↔ (kd κ o = (0, ci) ∧ wpB E m Q X (pc + 3) ls (pI (M o k) :: st) κ P M) := by
  rw [wpB_at hd]
  simp [stepP, popR, hf, fvp]
theorem zt_get_Z {E : CR} {m : Nat} {Q : QT} {X : XT} {pc : Nat} {ls : PL} {st : List PV} {κ : KK} {P : PM} {M : MM} {o i ci k : Nat} (hd : decode (cod m) pc = .ok (.getfield i, 3)) (hf : FT (mow m) i = some (ci, k, 2)) : wpB E m Q X pc ls (pR o :: st) κ P M ↔ (kd κ o = (0, ci) ∧ wpB E m Q X (pc + 3) ls (pI (M o k) :: st) κ P M) := by
  rw [wpB_at hd]
  simp [stepP, popR, hf, fvp]
theorem zt_get_L {E : CR} {m : Nat} {Q : QT} {X : XT} {pc : Nat} {ls : PL} {st : List PV} {κ : KK} {P : PM} {M : MM} {o i ci k : Nat} (hd : decode (cod m) pc = .ok (.getfield i, 3)) (hf : FT (mow m) i = some (ci, k, 5)) : wpB E m Q X pc ls (pR o :: st) κ P M ↔ (kd κ o = (0, ci) ∧ wpB E m Q X (pc + 3) ls (pL (M o k) :: st) κ P M) := by
  rw [wpB_at hd]
  simp [stepP, popR, hf, fvp]
theorem zt_get_R {E : CR} {m : Nat} {Q : QT} {X : XT} {pc : Nat} {ls : PL} {st : List PV} {κ : KK} {P : PM} {M : MM} {o i ci k : Nat} (hd : decode (cod m) pc = .ok (.getfield i, 3)) (hf : FT (mow m) i = some (ci, k, 8)) : wpB E m Q X pc ls (pR o :: st) κ P M ↔ (kd κ o = (0, ci) ∧ P o k ≠ 0 ∧ wpB E m Q X (pc + 3) ls (pR (P o k) :: st) κ P M) := by
  rw [wpB_at hd]
  simp [stepP, popR, hf, fvp]
theorem zt_put_I {E : CR} {m : Nat} {Q : QT} {X : XT} {pc : Nat} {ls : PL} {st : List PV} {κ : KK} {P : PM} {M : MM} {o i ci k : Nat} {x : Int} (hd : decode (cod m) pc = .ok (.putfield i, 3)) (hf : FT (mow m) i = some (ci, k, 1)) (hfin : fin ci k = false) : wpB E m Q X pc ls (pI x :: pR o :: st) κ P M ↔ (kd κ o = (0, ci) ∧ wpB E m Q X (pc + 3) ls st κ P (uM M o k x)) := by
  rw [wpB_at hd]
  simp [stepP, popR, popV, hf, hfin, putV]
theorem zt_put_Z {E : CR} {m : Nat} {Q : QT} {X : XT} {pc : Nat} {ls : PL} {st : List PV} {κ : KK} {P : PM} {M : MM} {o i ci k : Nat} {x : Int} (hd : decode (cod m) pc = .ok (.putfield i, 3)) (hf : FT (mow m) i = some (ci, k, 2)) (hfin : fin ci k = false) : wpB E m Q X pc ls (pI x :: pR o :: st) κ P M ↔ (kd κ o = (0, ci) ∧ (x = 0 ∨ x = 1) ∧ wpB E m Q X (pc + 3) ls st κ P (uM M o k x)) := by
  rw [wpB_at hd]
  simp [stepP, popR, popV, hf, hfin, putV]
theorem zt_put_L {E : CR} {m : Nat} {Q : QT} {X : XT} {pc : Nat} {ls : PL} {st : List PV} {κ : KK} {P : PM} {M : MM} {o i ci k : Nat} {x : Int} (hd : decode (cod m) pc = .ok (.putfield i, 3)) (hf : FT (mow m) i = some (ci, k, 5)) (hfin : fin ci k = false) : wpB E m Q X pc ls (pL x :: pR o :: st) κ P M ↔ (kd κ o = (0, ci) ∧ wpB E m Q X (pc + 3) ls st κ P (uM M o k x)) := by
  rw [wpB_at hd]
  simp [stepP, popR, popV, hf, hfin, putV]
theorem zt_put_R {E : CR} {m : Nat} {Q : QT} {X : XT} {pc : Nat} {ls : PL} {st : List PV} {κ : KK} {P : PM} {M : MM} {o i ci k x : Nat} (hd : decode (cod m) pc = .ok (.putfield i, 3)) (hf : FT (mow m) i = some (ci, k, 8)) (hfin : fin ci k = false ∨ ((mrow m).2.1 = "<init>" ∧ mow m = ci)) : wpB E m Q X pc ls (pR x :: pR o :: st) κ P M ↔ (kd κ o = (0, ci) ∧ x ≠ 0 ∧ wpB E m Q X (pc + 3) ls st κ (uP P o k x) M) := by
  rw [wpB_at hd]
  constructor
  · rintro ⟨-, v, s1, e1, o1, s2, e2, ci1, k1, t1, hf1, hk1, _, hp⟩
    cases e1
    cases e2
    rw [hf] at hf1
    cases hf1
    exact ⟨hk1, hp.2.1, hp.2.2⟩
  · rintro ⟨hk1, h0, h⟩
    exact ⟨rfl, _, _, rfl, _, _, rfl, ci, k, 8, hf, hk1, hfin, rfl, h0, h⟩
theorem zt_gst {E : CR} {m : Nat} {Q : QT} {X : XT} {pc : Nat} {ls : PL} {st : List PV} {κ : KK} {P : PM} {M : MM}  (hd : decode (cod m) pc = .ok (.getstatic 43, 3)) (hm : mow m = 6) : wpB E m Q X pc ls st κ P M ↔ (kd κ 0 = (9, 13) ∧ wpB E m Q X (pc + 3) ls (pR 0 :: st) κ P M) := by
  rw [wpB_at hd]
  simp [stepP, hm]
theorem zt_alen {E : CR} {m : Nat} {Q : QT} {X : XT} {pc : Nat} {ls : PL} {st : List PV} {κ : KK} {P : PM} {M : MM} {a : Nat} (hd : decode (cod m) pc = .ok (.arraylength, 1)) : wpB E m Q X pc ls (pR a :: st) κ P M ↔ ((1 ≤ (kd κ a).1 ∧ (kd κ a).1 ≤ 9) ∧ wpB E m Q X (pc + 1) ls (pI ((kd κ a).2 : Int) :: st) κ P M) := by
  rw [wpB_at hd]
  simp [stepP, popR]
theorem zt_iaload {E : CR} {m : Nat} {Q : QT} {X : XT} {pc : Nat} {ls : PL} {st : List PV} {κ : KK} {P : PM} {M : MM} {a : Nat} {j : Int} (hd : decode (cod m) pc = .ok (.iaload, 1)) : wpB E m Q X pc ls (pI j :: pR a :: st) κ P M ↔ ((kd κ a).1 = 1 ∧ 0 ≤ j ∧ j < (kd κ a).2 ∧ wpB E m Q X (pc + 1) ls (pI (M a j.toNat) :: st) κ P M) := by
  rw [wpB_at hd]
  simp [stepP, popR, popI]
theorem zt_baload {E : CR} {m : Nat} {Q : QT} {X : XT} {pc : Nat} {ls : PL} {st : List PV} {κ : KK} {P : PM} {M : MM} {a : Nat} {j : Int} (hd : decode (cod m) pc = .ok (.baload, 1)) : wpB E m Q X pc ls (pI j :: pR a :: st) κ P M ↔ (((kd κ a).1 = 2 ∨ (kd κ a).1 = 3) ∧ 0 ≤ j ∧ j < (kd κ a).2 ∧ wpB E m Q X (pc + 1) ls (pI (M a j.toNat) :: st) κ P M) := by
  rw [wpB_at hd]
  simp [stepP, popR, popI]
theorem zt_caload {E : CR} {m : Nat} {Q : QT} {X : XT} {pc : Nat} {ls : PL} {st : List PV} {κ : KK} {P : PM} {M : MM} {a : Nat} {j : Int} (hd : decode (cod m) pc = .ok (.caload, 1)) : wpB E m Q X pc ls (pI j :: pR a :: st) κ P M ↔ (((kd κ a).1 = 4 ∨ (a = 0 ∧ (kd κ a).1 = 9)) ∧ 0 ≤ j ∧ j < (kd κ a).2 ∧ wpB E m Q X (pc + 1) ls (pI (M a j.toNat) :: st) κ P M) := by
  rw [wpB_at hd]
  simp [stepP, popR, popI]
theorem zt_laload {E : CR} {m : Nat} {Q : QT} {X : XT} {pc : Nat} {ls : PL} {st : List PV} {κ : KK} {P : PM} {M : MM} {a : Nat} {j : Int} (hd : decode (cod m) pc = .ok (.laload, 1)) : wpB E m Q X pc ls (pI j :: pR a :: st) κ P M ↔ ((kd κ a).1 = 5 ∧ 0 ≤ j ∧ j < (kd κ a).2 ∧ wpB E m Q X (pc + 1) ls (pL (M a j.toNat) :: st) κ P M) := by
  rw [wpB_at hd]
  simp [stepP, popR, popI]
theorem zt_aaload {E : CR} {m : Nat} {Q : QT} {X : XT} {pc : Nat} {ls : PL} {st : List PV} {κ : KK} {P : PM} {M : MM} {a : Nat} {j : Int} (hd : decode (cod m) pc = .ok (.aaload, 1)) : wpB E m Q X pc ls (pI j :: pR a :: st) κ P M ↔ (((kd κ a).1 = 6 ∨ (kd κ a).1 = 7) ∧ 0 ≤ j ∧ j < (kd κ a).2 ∧ P a j.toNat ≠ 0 ∧ wpB E m Q X (pc + 1) ls (pR (P a j.toNat) :: st) κ P M) := by
  rw [wpB_at hd]
  simp [stepP, popR, popI]
theorem zt_iastore {E : CR} {m : Nat} {Q : QT} {X : XT} {pc : Nat} {ls : PL} {st : List PV} {κ : KK} {P : PM} {M : MM} {a : Nat} {j x : Int} (hd : decode (cod m) pc = .ok (.iastore, 1)) : wpB E m Q X pc ls (pI x :: pI j :: pR a :: st) κ P M ↔ ((kd κ a).1 = 1 ∧ 0 ≤ j ∧ j < (kd κ a).2 ∧ wpB E m Q X (pc + 1) ls st κ P (uM M a j.toNat x)) := by
  rw [wpB_at hd]
  simp [stepP, popR, popI, popL]
theorem zt_bastore {E : CR} {m : Nat} {Q : QT} {X : XT} {pc : Nat} {ls : PL} {st : List PV} {κ : KK} {P : PM} {M : MM} {a : Nat} {j x : Int} (hd : decode (cod m) pc = .ok (.bastore, 1)) : wpB E m Q X pc ls (pI x :: pI j :: pR a :: st) κ P M ↔ ((((kd κ a).1 = 2 ∧ (x = 0 ∨ x = 1)) ∨ ((kd κ a).1 = 3 ∧ (-128 ≤ x ∧ x < 128))) ∧ 0 ≤ j ∧ j < (kd κ a).2 ∧ wpB E m Q X (pc + 1) ls st κ P (uM M a j.toNat x)) := by
  rw [wpB_at hd]
  simp [stepP, popR, popI, popL]
theorem zt_castore {E : CR} {m : Nat} {Q : QT} {X : XT} {pc : Nat} {ls : PL} {st : List PV} {κ : KK} {P : PM} {M : MM} {a : Nat} {j x : Int} (hd : decode (cod m) pc = .ok (.castore, 1)) : wpB E m Q X pc ls (pI x :: pI j :: pR a :: st) κ P M ↔ ((kd κ a).1 = 4 ∧ (0 ≤ x ∧ x < 65536) ∧ 0 ≤ j ∧ j < (kd κ a).2 ∧ wpB E m Q X (pc + 1) ls st κ P (uM M a j.toNat x)) := by
  rw [wpB_at hd]
  simp [stepP, popR, popI, popL]
theorem zt_lastore {E : CR} {m : Nat} {Q : QT} {X : XT} {pc : Nat} {ls : PL} {st : List PV} {κ : KK} {P : PM} {M : MM} {a : Nat} {j x : Int} (hd : decode (cod m) pc = .ok (.lastore, 1)) : wpB E m Q X pc ls (pL x :: pI j :: pR a :: st) κ P M ↔ ((kd κ a).1 = 5 ∧ 0 ≤ j ∧ j < (kd κ a).2 ∧ wpB E m Q X (pc + 1) ls st κ P (uM M a j.toNat x)) := by
  rw [wpB_at hd]
  simp [stepP, popR, popI, popL]
theorem zt_aastore {E : CR} {m : Nat} {Q : QT} {X : XT} {pc : Nat} {ls : PL} {st : List PV} {κ : KK} {P : PM} {M : MM} {a x : Nat} {j : Int} (hd : decode (cod m) pc = .ok (.aastore, 1)) : wpB E m Q X pc ls (pR x :: pI j :: pR a :: st) κ P M ↔ ((((kd κ a).1 = 6 ∧ kd κ x = (0, 7)) ∨ ((kd κ a).1 = 7 ∧ kd κ x = (0, 5))) ∧ 0 ≤ j ∧ j < (kd κ a).2 ∧ wpB E m Q X (pc + 1) ls st κ (uP P a j.toNat x) M) := by
  rw [wpB_at hd]
  simp [stepP, popR, popI]
theorem zt_ireturn_I {E : CR} {m : Nat} {Q : QT} {X : XT} {pc : Nat} {ls : PL} {st : List PV} {κ : KK} {P : PM} {M : MM} {x : Int} (hd : decode (cod m) pc = .ok (.ireturn, 1)) (hr : rty m = some .int) : wpB E m Q X pc ls [pI x] κ P M ↔ Q (some (pI x)) κ P M := by
  rw [wpB_at hd]
  simp [stepP, popI, hr]
theorem zt_ireturn_Z {E : CR} {m : Nat} {Q : QT} {X : XT} {pc : Nat} {ls : PL} {st : List PV} {κ : KK} {P : PM} {M : MM} {x : Int} (hd : decode (cod m) pc = .ok (.ireturn, 1)) (hr : rty m = some .boolean) : wpB E m Q X pc ls [pI x] κ P M ↔ ((x = 0 ∨ x = 1) ∧ Q (some (pI x)) κ P M) := by
  rw [wpB_at hd]
  simp [stepP, popI, hr]
theorem zt_lreturn {E : CR} {m : Nat} {Q : QT} {X : XT} {pc : Nat} {ls : PL} {st : List PV} {κ : KK} {P : PM} {M : MM} {x : Int} (hd : decode (cod m) pc = .ok (.lreturn, 1)) (hr : rty m = some .long) : wpB E m Q X pc ls [pL x] κ P M ↔ Q (some (pL x)) κ P M := by
  rw [wpB_at hd]
  simp [stepP, popL, hr]
theorem zt_areturn {E : CR} {m : Nat} {Q : QT} {X : XT} {pc : Nat} {ls : PL} {st : List PV} {κ : KK} {P : PM} {M : MM} {x : Nat} (hd : decode (cod m) pc = .ok (.areturn, 1)) (hr : rty m = some (.object "BuriedWithIt$Path")) : wpB E m Q X pc ls [pR x] κ P M ↔ Q (some (pR x)) κ P M := by
  rw [wpB_at hd]
  simp [stepP, popR, hr]
theorem zt_return {E : CR} {m : Nat} {Q : QT} {X : XT} {pc : Nat} {ls : PL} {st : List PV} {κ : KK} {P : PM} {M : MM}  (hd : decode (cod m) pc = .ok (.return_, 1)) (hr : rty m = none) : wpB E m Q X pc ls [] κ P M ↔ Q none κ P M := by
  rw [wpB_at hd]
  simp [stepP, hr]
theorem zt_tsw {E : CR} {m : Nat} {Q : QT} {X : XT} {pc : Nat} {ls : PL} {st : List PV} {κ : KK} {P : PM} {M : MM} {d lo hi x : Int} {offs : Array Int} {len : Nat} (hd : decode (cod m) pc = .ok (.tableswitch d lo hi offs, len)) (hl : lo ≤ hi ∧ offs.size = (hi - lo + 1).toNat) : wpB E m Q X pc ls (pI x :: st) κ P M ↔ (0 ≤ (pc : Int) + swo d lo hi offs.toList x ∧ wpB E m Q X (tg pc (swo d lo hi offs.toList x)) ls st κ P M) := by
  rw [wpB_at hd]
  simp [stepP, popI, hl]
theorem zt_lsw {E : CR} {m : Nat} {Q : QT} {X : XT} {pc : Nat} {ls : PL} {st : List PV} {κ : KK} {P : PM} {M : MM} {d x : Int} {ps : Array (Int × Int)} {len : Nat} (hd : decode (cod m) pc = .ok (.lookupswitch d ps, len)) (hl : (ps.toList.zip (ps.toList.drop 1)).all (fun (a, next) => a.1 < next.1) = true) : wpB E m Q X pc ls (pI x :: st) κ P M ↔ (0 ≤ (pc : Int) + Op.lookupswitch.offset ps.toList d x ∧ wpB E m Q X (tg pc (Op.lookupswitch.offset ps.toList d x)) ls st κ P M) := by
  rw [wpB_at hd]
  simp only [stepP, popI, hl, true_and]
  simp
