/-! THE PURE MACHINE: values with tags over Int, memory by ids, one step as a predicate on what comes next, runs as its least fixed point -/
abbrev PV : Type := Int ⊕ (Int ⊕ Nat)
abbrev pI (x : Int) : PV := Sum.inl x
abbrev pL (x : Int) : PV := Sum.inr (Sum.inl x)
abbrev pR (o : Nat) : PV := Sum.inr (Sum.inr o)
abbrev PM : Type := Nat → Nat → Nat
abbrev MM : Type := Nat → Nat → Int
abbrev KK : Type := (Nat × Nat) × List (Nat × Nat)
abbrev PL : Type := List (Option PV)
abbrev KT : Type := Nat → PL → List PV → KK → PM → MM → Prop
abbrev CR : Type := Nat → List PV → KK → PM → MM → Option PV → KK → PM → MM → Prop
abbrev QT : Type := Option PV → KK → PM → MM → Prop
abbrev XT : Type := KK → PM → MM → Prop
def w32 (x : Int) : Int := (x + 2147483648) % 4294967296 - 2147483648
def w64 (x : Int) : Int := (x + 9223372036854775808) % 18446744073709551616 - 9223372036854775808
def w16 (x : Int) : Int := (x + 32768) % 65536 - 32768
def w8 (x : Int) : Int := (x + 128) % 256 - 128
def r32 (x : Int) : Prop := -2147483648 ≤ x ∧ x < 2147483648
def r64 (x : Int) : Prop := -9223372036854775808 ≤ x ∧ x < 9223372036854775808
def bAnd (a b : Int) : Int := (Int32.ofInt a &&& Int32.ofInt b).toInt
def bOr (a b : Int) : Int := (Int32.ofInt a ||| Int32.ofInt b).toInt
def bXor (a b : Int) : Int := (Int32.ofInt a ^^^ Int32.ofInt b).toInt
def bShl (a b : Int) : Int := (Int32.ofInt a <<< (Int32.ofInt b &&& 31)).toInt
def bShr (a b : Int) : Int := (Int32.ofInt a >>> (Int32.ofInt b &&& 31)).toInt
def bUshr (a b : Int) : Int := ((Int32.ofInt a).toUInt32 >>> ((Int32.ofInt b).toUInt32 &&& Int32.toUInt32 31)).toInt32.toInt
def lAnd (a b : Int) : Int := (Int64.ofInt a &&& Int64.ofInt b).toInt
def lOr (a b : Int) : Int := (Int64.ofInt a ||| Int64.ofInt b).toInt
def lXor (a b : Int) : Int := (Int64.ofInt a ^^^ Int64.ofInt b).toInt
def lShl (a b : Int) : Int := (Int64.ofInt a <<< ((Int32.ofInt b).toInt64 &&& 63)).toInt
def lShr (a b : Int) : Int := (Int64.ofInt a >>> ((Int32.ofInt b).toInt64 &&& 63)).toInt
def lUshr (a b : Int) : Int := ((Int64.ofInt a).toUInt64 >>> ((Int32.ofInt b).toInt64.toUInt64 &&& Int64.toUInt64 63)).toInt64.toInt
def lCmp (x y : Int) : Int := if y < x then 1 else if x = y then 0 else -1
def uM (M : MM) (o k : Nat) (v : Int) : MM := fun o' k' => if o' = o then (if k' = k then v else M o k') else M o' k'
def uP (P : PM) (o k : Nat) (v : Nat) : PM := fun o' k' => if o' = o then (if k' = k then v else P o k') else P o' k'
def zM (M : MM) (o : Nat) : MM := fun o' k' => if o' = o then 0 else M o' k'
def zP (P : PM) (o : Nat) : PM := fun o' k' => if o' = o then 0 else P o' k'
def cM (M : MM) (s d sp dp n : Nat) : MM := fun o => if o = d then va_cpy (M s) (M d) sp dp n else M o
def kd (κ : KK) (o : Nat) : Nat × Nat := κ.2.getD o (99, 0)
-- tables
def tcd (d : String) : Nat := if d = "I" then 1 else if d = "Z" then 2 else if d = "J" then 5 else 8
def crow (ci : Nat) : String × List (String × String × Bool) := ctab.getD ci ("", [])
def frow (ci k : Nat) : String × String × Bool := (crow ci).2.getD k ("", "", false)
def ftc (ci k : Nat) : Nat := tcd (frow ci k).2.1
def fin (ci k : Nat) : Bool := (frow ci k).2.2
def nfl (ci : Nat) : Nat := (crow ci).2.length
def FT (ow idx : Nat) : Option (Nat × Nat × Nat) := (ftab.find? (fun e => e.1 == ow && e.2.1 == idx)).map (fun e => (e.2.2.1, e.2.2.2.1, ftc e.2.2.1 e.2.2.2.1))
def CTb (ow idx : Nat) : Option (Nat × Nat) := (ktab.find? (fun e => e.1 == ow && e.2.1 == idx)).map (fun e => (e.2.2.1, e.2.2.2))
def IT (ow idx : Nat) : Option Int := (itab.find? (fun e => e.1 == ow && e.2.1 == idx)).map (fun e => e.2.2)
def JT (ow idx : Nat) : Option Int := (jtab.find? (fun e => e.1 == ow && e.2.1 == idx)).map (fun e => e.2.2)
def NT (ow idx : Nat) : Option Nat := (ntab.find? (fun e => e.1 == ow && e.2.1 == idx)).map (fun e => e.2.2)
def mrow (m : Nat) : Mrow := mtab.getD m (0, "", "", ByteArray.empty, 0, none)
def mow (m : Nat) : Nat := (mrow m).1
def cod (m : Nat) : ByteArray := (mrow m).2.2.2.1
def mxl (m : Nat) : Nat := (mrow m).2.2.2.2.1
def rty (m : Nat) : Option FieldType := (mrow m).2.2.2.2.2
def mN (m : Nat) : MethodName := ⟨ownN (mow m), (mrow m).2.1, (mrow m).2.2.1⟩
def nar (m : Nat) : Nat := ((parseMethodDescriptor (mrow m).2.2.1).map (fun d => d.parameters.length)).getD 0
-- the stack and the locals
def popI (st : List PV) (K : Int → List PV → Prop) : Prop := ∃ x st', st = pI x :: st' ∧ K x st'
def popL (st : List PV) (K : Int → List PV → Prop) : Prop := ∃ x st', st = pL x :: st' ∧ K x st'
def popR (st : List PV) (K : Nat → List PV → Prop) : Prop := ∃ x st', st = pR x :: st' ∧ K x st'
def popV (st : List PV) (K : PV → List PV → Prop) : Prop := ∃ x st', st = x :: st' ∧ K x st'
def popA : Nat → List PV → List PV → (List PV → List PV → Prop) → Prop
  | 0, acc, st, K => K acc st
  | _ + 1, _, [], _ => False
  | n + 1, acc, v :: st, K => popA n (v :: acc) st K
def getI (ls : PL) (i : Nat) (K : Int → Prop) : Prop := ∃ x, ls[i]? = some (some (pI x)) ∧ K x
def getL (ls : PL) (i : Nat) (K : Int → Prop) : Prop := ∃ x, ls[i]? = some (some (pL x)) ∧ K x
def getR (ls : PL) (i : Nat) (K : Nat → Prop) : Prop := ∃ x, ls[i]? = some (some (pR x)) ∧ K x
def clr : Option PV → Option PV
  | some (Sum.inr (Sum.inl _)) => none
  | x => x
def set1 : PL → Nat → PV → PL
  | [], _, _ => []
  | _ :: t, 0, v => some v :: t
  | x :: [], 1, _ => x :: []
  | x :: _ :: t, 1, v => clr x :: some v :: t
  | x :: t, n + 2, v => x :: set1 t (n + 1) v
def set2 : PL → Nat → PV → PL
  | [], _, _ => []
  | x :: [], _, _ => x :: []
  | _ :: _ :: t, 0, v => some v :: none :: t
  | x :: _ :: [], 1, _ => clr x :: none :: []
  | x :: _ :: _ :: t, 1, v => clr x :: some v :: none :: t
  | x :: y :: t, n + 2, v => x :: set2 (y :: t) (n + 1) v
def isL : PV → Bool
  | Sum.inr (Sum.inl _) => true
  | _ => false
def scat : List PV → Nat
  | [] => 0
  | v :: t => (if isL v then 2 else 1) + scat t
def ent : List PV → PL
  | [] => []
  | v :: t => if isL v then some v :: none :: ent t else some v :: ent t
def entL (m : Nat) (as : List PV) : PL := ent as ++ List.replicate (mxl m - (ent as).length) none
def fvp (t p : Nat) (x : Int) : PV := if t = 8 then pR p else if t = 5 then pL x else pI x
def tg (pc : Nat) (off : Int) : Nat := ((pc : Int) + off).toNat
def br (c : Prop) (pc : Nat) (off : Int) (K : Nat → Prop) : Prop := 0 ≤ (pc : Int) + off ∧ (c → K (tg pc off)) ∧ (¬ c → K (pc + 3))
def swo (d lo hi : Int) (offs : List Int) (x : Int) : Int := if x < lo ∨ hi < x then d else offs.getD (x - lo).toNat d
def atc : ArrayType → Nat
  | .int => 1 | .boolean => 2 | .byte => 3 | .char => 4 | .long => 5 | _ => 98
def newK (κ : KK) (a : Nat × Nat) (n : Nat) : KK := ((κ.1.1 - 1, κ.1.2 - n), κ.2 ++ [a])
def putV (M : MM) (P : PM) (o k t : Nat) (v : PV) (K : PM → MM → Prop) : Prop := match v with
  | Sum.inl x => (t = 1 ∨ (t = 2 ∧ (x = 0 ∨ x = 1))) ∧ K P (uM M o k x)
  | Sum.inr (Sum.inl x) => t = 5 ∧ K P (uM M o k x)
  | Sum.inr (Sum.inr p) => t = 8 ∧ p ≠ 0 ∧ K (uP P o k p) M
def kCall (E : CR) (y : Nat) (as : List PV) (st : List PV) (κ : KK) (P : PM) (M : MM) (K : List PV → KK → PM → MM → Prop) : Prop :=
  scat st ≤ 8 ∧ ∃ (b : Nat × Nat) (r : Option PV) (κ' : KK) (P' : PM) (M' : MM), (b.1 ≤ κ.1.1 ∧ b.2 ≤ κ.1.2) ∧ E y as (b, κ.2) P M r κ' P' M' ∧ K (r.toList ++ st) ((κ.1.1 - b.1, κ.1.2 - b.2), κ'.2) P' M'
def kInv (E : CR) (c y : Nat) (st : List PV) (κ : KK) (P : PM) (M : MM) (K : List PV → KK → PM → MM → Prop) : Prop :=
  if c < 2 then popA (nar y + 1) [] st (fun as st' => (∃ o as', as = pR o :: as' ∧ kd κ o = (0, mow y)) ∧ kCall E y as st' κ P M K)
  else if c < 4 then popA (nar y) [] st (fun as st' => kCall E y as st' κ P M K)
  else if c < 6 then popA (nar y + 1) [] st (fun as st' => (∃ o as', as = pR o :: as') ∧ kCall E y as st' κ P M K)
  else if c = 6 then popR st (fun _ st' => scat st' ≤ 8 ∧ K st' κ P M)
  else if c = 7 then popI st (fun y st1 => popI st1 (fun x st2 => scat st2 ≤ 8 ∧ K (pI (if x < y then y else x) :: st2) κ P M))
  else if c = 8 then popI st (fun y st1 => popI st1 (fun x st2 => scat st2 ≤ 8 ∧ K (pI (if y < x then y else x) :: st2) κ P M))
  else if c = 9 then popI st (fun x st2 => scat st2 ≤ 8 ∧ K (pI (if 0 ≤ x then x else w32 (0 - x)) :: st2) κ P M)
  else if c = 10 then popI st (fun n st1 => popI st1 (fun dp st2 => popR st2 (fun d st3 => popI st3 (fun sp st4 => popR st4 (fun s st5 => scat st5 ≤ 8 ∧ ∃ n0 n1 : Nat, kd κ s = (1, n0) ∧ kd κ d = (1, n1) ∧ 0 ≤ sp ∧ 0 ≤ dp ∧ 0 ≤ n ∧ sp + n ≤ n0 ∧ dp + n ≤ n1 ∧ K st5 κ P (cM M s d sp.toNat dp.toNat n.toNat))))))
  else False
def stepP (E : CR) (m : Nat) (Q : QT) (X : XT) (i : Instr) (len : Nat) (pc : Nat) (ls : PL) (st : List PV) (κ : KK) (P : PM) (M : MM) (K : KT) : Prop :=
  match i with
  | .iconst n => len = 1 ∧ (-1 ≤ n ∧ n ≤ 5) ∧ K (pc + 1) ls (pI n :: st) κ P M
  | .bipush n => len = 2 ∧ (-128 ≤ n ∧ n < 128) ∧ K (pc + 2) ls (pI n :: st) κ P M
  | .sipush n => len = 3 ∧ (-32768 ≤ n ∧ n < 32768) ∧ K (pc + 3) ls (pI n :: st) κ P M
  | .lconst n => len = 1 ∧ K (pc + 1) ls (pL ((n : Nat) : Int) :: st) κ P M
  | .ldc i => len = 2 ∧ ∃ v, IT (mow m) i = some v ∧ K (pc + 2) ls (pI v :: st) κ P M
  | .ldc_w i => len = 3 ∧ ∃ v, IT (mow m) i = some v ∧ K (pc + 3) ls (pI v :: st) κ P M
  | .ldc2_w i => len = 3 ∧ ∃ v, JT (mow m) i = some v ∧ K (pc + 3) ls (pL v :: st) κ P M
  | .iload_n k => len = 1 ∧ getI ls k (fun x => K (pc + 1) ls (pI x :: st) κ P M)
  | .iload k => len = 2 ∧ getI ls k (fun x => K (pc + 2) ls (pI x :: st) κ P M)
  | .lload_n k => len = 1 ∧ getL ls k (fun x => K (pc + 1) ls (pL x :: st) κ P M)
  | .lload k => len = 2 ∧ getL ls k (fun x => K (pc + 2) ls (pL x :: st) κ P M)
  | .aload_n k => len = 1 ∧ getR ls k (fun x => K (pc + 1) ls (pR x :: st) κ P M)
  | .aload k => len = 2 ∧ getR ls k (fun x => K (pc + 2) ls (pR x :: st) κ P M)
  | .istore_n k => len = 1 ∧ (k : Nat) < ls.length ∧ popI st (fun x st' => K (pc + 1) (set1 ls k (pI x)) st' κ P M)
  | .istore k => len = 2 ∧ k < ls.length ∧ popI st (fun x st' => K (pc + 2) (set1 ls k (pI x)) st' κ P M)
  | .lstore_n k => len = 1 ∧ (k : Nat) + 1 < ls.length ∧ popL st (fun x st' => K (pc + 1) (set2 ls k (pL x)) st' κ P M)
  | .lstore k => len = 2 ∧ k + 1 < ls.length ∧ popL st (fun x st' => K (pc + 2) (set2 ls k (pL x)) st' κ P M)
  | .astore_n k => len = 1 ∧ (k : Nat) < ls.length ∧ popR st (fun x st' => K (pc + 1) (set1 ls k (pR x)) st' κ P M)
  | .astore k => len = 2 ∧ k < ls.length ∧ popR st (fun x st' => K (pc + 2) (set1 ls k (pR x)) st' κ P M)
  | .iinc k n => len = 3 ∧ k < ls.length ∧ getI ls k (fun x => K (pc + 3) (set1 ls k (pI (w32 (x + n)))) st κ P M)
  | .iadd => len = 1 ∧ popI st (fun y st1 => popI st1 (fun x st2 => K (pc + 1) ls (pI (w32 (x + y)) :: st2) κ P M))
  | .isub => len = 1 ∧ popI st (fun y st1 => popI st1 (fun x st2 => K (pc + 1) ls (pI (w32 (x - y)) :: st2) κ P M))
  | .imul => len = 1 ∧ popI st (fun y st1 => popI st1 (fun x st2 => K (pc + 1) ls (pI (w32 (x * y)) :: st2) κ P M))
  | .idiv => len = 1 ∧ popI st (fun y st1 => popI st1 (fun x st2 => y ≠ 0 ∧ K (pc + 1) ls (pI (w32 (x.tdiv y)) :: st2) κ P M))
  | .irem => len = 1 ∧ popI st (fun y st1 => popI st1 (fun x st2 => y ≠ 0 ∧ K (pc + 1) ls (pI (x.tmod y) :: st2) κ P M))
  | .ineg => len = 1 ∧ popI st (fun x st2 => K (pc + 1) ls (pI (w32 (-x)) :: st2) κ P M)
  | .iand => len = 1 ∧ popI st (fun y st1 => popI st1 (fun x st2 => K (pc + 1) ls (pI (bAnd x y) :: st2) κ P M))
  | .ior => len = 1 ∧ popI st (fun y st1 => popI st1 (fun x st2 => K (pc + 1) ls (pI (bOr x y) :: st2) κ P M))
  | .ixor => len = 1 ∧ popI st (fun y st1 => popI st1 (fun x st2 => K (pc + 1) ls (pI (bXor x y) :: st2) κ P M))
  | .ishl => len = 1 ∧ popI st (fun y st1 => popI st1 (fun x st2 => K (pc + 1) ls (pI (bShl x y) :: st2) κ P M))
  | .ishr => len = 1 ∧ popI st (fun y st1 => popI st1 (fun x st2 => K (pc + 1) ls (pI (bShr x y) :: st2) κ P M))
  | .iushr => len = 1 ∧ popI st (fun y st1 => popI st1 (fun x st2 => K (pc + 1) ls (pI (bUshr x y) :: st2) κ P M))
  | .ladd => len = 1 ∧ popL st (fun y st1 => popL st1 (fun x st2 => K (pc + 1) ls (pL (w64 (x + y)) :: st2) κ P M))
  | .lsub => len = 1 ∧ popL st (fun y st1 => popL st1 (fun x st2 => K (pc + 1) ls (pL (w64 (x - y)) :: st2) κ P M))
  | .lmul => len = 1 ∧ popL st (fun y st1 => popL st1 (fun x st2 => K (pc + 1) ls (pL (w64 (x * y)) :: st2) κ P M))
  | .ldiv => len = 1 ∧ popL st (fun y st1 => popL st1 (fun x st2 => y ≠ 0 ∧ K (pc + 1) ls (pL (w64 (x.tdiv y)) :: st2) κ P M))
  | .lrem => len = 1 ∧ popL st (fun y st1 => popL st1 (fun x st2 => y ≠ 0 ∧ K (pc + 1) ls (pL (x.tmod y) :: st2) κ P M))
  | .land => len = 1 ∧ popL st (fun y st1 => popL st1 (fun x st2 => K (pc + 1) ls (pL (lAnd x y) :: st2) κ P M))
  | .lor => len = 1 ∧ popL st (fun y st1 => popL st1 (fun x st2 => K (pc + 1) ls (pL (lOr x y) :: st2) κ P M))
  | .lxor => len = 1 ∧ popL st (fun y st1 => popL st1 (fun x st2 => K (pc + 1) ls (pL (lXor x y) :: st2) κ P M))
  | .lshl => len = 1 ∧ popI st (fun y st1 => popL st1 (fun x st2 => K (pc + 1) ls (pL (lShl x y) :: st2) κ P M))
  | .lshr => len = 1 ∧ popI st (fun y st1 => popL st1 (fun x st2 => K (pc + 1) ls (pL (lShr x y) :: st2) κ P M))
  | .lushr => len = 1 ∧ popI st (fun y st1 => popL st1 (fun x st2 => K (pc + 1) ls (pL (lUshr x y) :: st2) κ P M))
  | .lcmp => len = 1 ∧ popL st (fun y st1 => popL st1 (fun x st2 => K (pc + 1) ls (pI (lCmp x y) :: st2) κ P M))
  | .i2l => len = 1 ∧ popI st (fun x st2 => K (pc + 1) ls (pL x :: st2) κ P M)
  | .l2i => len = 1 ∧ popL st (fun x st2 => K (pc + 1) ls (pI (w32 x) :: st2) κ P M)
  | .i2b => len = 1 ∧ popI st (fun x st2 => K (pc + 1) ls (pI (w8 x) :: st2) κ P M)
  | .i2s => len = 1 ∧ popI st (fun x st2 => K (pc + 1) ls (pI (w16 x) :: st2) κ P M)
  | .i2c => len = 1 ∧ popI st (fun x st2 => K (pc + 1) ls (pI (x % 65536) :: st2) κ P M)
  | .dup => len = 1 ∧ popV st (fun v st1 => isL v = false ∧ K (pc + 1) ls (v :: v :: st1) κ P M)
  | .pop => len = 1 ∧ popV st (fun v st1 => isL v = false ∧ K (pc + 1) ls st1 κ P M)
  | .dup_x1 => len = 1 ∧ popV st (fun v st1 => popV st1 (fun w st2 => isL v = false ∧ isL w = false ∧ K (pc + 1) ls (v :: w :: v :: st2) κ P M))
  | .dup2 => len = 1 ∧ popV st (fun v st1 => (isL v = true ∧ K (pc + 1) ls (v :: v :: st1) κ P M) ∨ (isL v = false ∧ popV st1 (fun w st2 => isL w = false ∧ K (pc + 1) ls (v :: w :: v :: w :: st2) κ P M)))
  | .ifCond .eq off => len = 3 ∧ popI st (fun x st1 => br (x = 0) pc off (fun t => K t ls st1 κ P M))
  | .ifCond .ne off => len = 3 ∧ popI st (fun x st1 => br (x ≠ 0) pc off (fun t => K t ls st1 κ P M))
  | .ifCond .lt off => len = 3 ∧ popI st (fun x st1 => br (x < 0) pc off (fun t => K t ls st1 κ P M))
  | .ifCond .ge off => len = 3 ∧ popI st (fun x st1 => br (0 ≤ x) pc off (fun t => K t ls st1 κ P M))
  | .ifCond .gt off => len = 3 ∧ popI st (fun x st1 => br (0 < x) pc off (fun t => K t ls st1 κ P M))
  | .ifCond .le off => len = 3 ∧ popI st (fun x st1 => br (x ≤ 0) pc off (fun t => K t ls st1 κ P M))
  | .if_icmp .eq off => len = 3 ∧ popI st (fun y st1 => popI st1 (fun x st2 => br (x = y) pc off (fun t => K t ls st2 κ P M)))
  | .if_icmp .ne off => len = 3 ∧ popI st (fun y st1 => popI st1 (fun x st2 => br (x ≠ y) pc off (fun t => K t ls st2 κ P M)))
  | .if_icmp .lt off => len = 3 ∧ popI st (fun y st1 => popI st1 (fun x st2 => br (x < y) pc off (fun t => K t ls st2 κ P M)))
  | .if_icmp .ge off => len = 3 ∧ popI st (fun y st1 => popI st1 (fun x st2 => br (y ≤ x) pc off (fun t => K t ls st2 κ P M)))
  | .if_icmp .gt off => len = 3 ∧ popI st (fun y st1 => popI st1 (fun x st2 => br (y < x) pc off (fun t => K t ls st2 κ P M)))
  | .if_icmp .le off => len = 3 ∧ popI st (fun y st1 => popI st1 (fun x st2 => br (x ≤ y) pc off (fun t => K t ls st2 κ P M)))
  | .goto off => len = 3 ∧ 0 ≤ (pc : Int) + off ∧ K (tg pc off) ls st κ P M
  | .tableswitch d lo hi offs => (lo ≤ hi ∧ offs.size = (hi - lo + 1).toNat) ∧ popI st (fun x st1 => 0 ≤ (pc : Int) + swo d lo hi offs.toList x ∧ K (tg pc (swo d lo hi offs.toList x)) ls st1 κ P M)
  | .lookupswitch d ps => (ps.toList.zip (ps.toList.drop 1)).all (fun (a, next) => a.1 < next.1) = true ∧ popI st (fun x st1 => 0 ≤ (pc : Int) + Op.lookupswitch.offset ps.toList d x ∧ K (tg pc (Op.lookupswitch.offset ps.toList d x)) ls st1 κ P M)
  | .getfield i => len = 3 ∧ popR st (fun o st1 => ∃ ci k t, FT (mow m) i = some (ci, k, t) ∧ kd κ o = (0, ci) ∧ (t = 8 → P o k ≠ 0) ∧ K (pc + 3) ls (fvp t (P o k) (M o k) :: st1) κ P M)
  | .putfield i => len = 3 ∧ popV st (fun v st1 => popR st1 (fun o st2 => ∃ ci k t, FT (mow m) i = some (ci, k, t) ∧ kd κ o = (0, ci) ∧ (fin ci k = false ∨ ((mrow m).2.1 = "<init>" ∧ mow m = ci)) ∧ putV M P o k t v (fun P' M' => K (pc + 3) ls st2 κ P' M')))
  | .getstatic i => len = 3 ∧ mow m = 6 ∧ i = 43 ∧ kd κ 0 = (9, 13) ∧ K (pc + 3) ls (pR 0 :: st) κ P M
  | .arraylength => len = 1 ∧ popR st (fun a st1 => (1 ≤ (kd κ a).1 ∧ (kd κ a).1 ≤ 9) ∧ K (pc + 1) ls (pI ((kd κ a).2 : Int) :: st1) κ P M)
  | .iaload => len = 1 ∧ popI st (fun j st1 => popR st1 (fun a st2 => (kd κ a).1 = 1 ∧ 0 ≤ j ∧ j < (kd κ a).2 ∧ K (pc + 1) ls (pI (M a j.toNat) :: st2) κ P M))
  | .baload => len = 1 ∧ popI st (fun j st1 => popR st1 (fun a st2 => ((kd κ a).1 = 2 ∨ (kd κ a).1 = 3) ∧ 0 ≤ j ∧ j < (kd κ a).2 ∧ K (pc + 1) ls (pI (M a j.toNat) :: st2) κ P M))
  | .caload => len = 1 ∧ popI st (fun j st1 => popR st1 (fun a st2 => ((kd κ a).1 = 4 ∨ (a = 0 ∧ (kd κ a).1 = 9)) ∧ 0 ≤ j ∧ j < (kd κ a).2 ∧ K (pc + 1) ls (pI (M a j.toNat) :: st2) κ P M))
  | .laload => len = 1 ∧ popI st (fun j st1 => popR st1 (fun a st2 => (kd κ a).1 = 5 ∧ 0 ≤ j ∧ j < (kd κ a).2 ∧ K (pc + 1) ls (pL (M a j.toNat) :: st2) κ P M))
  | .aaload => len = 1 ∧ popI st (fun j st1 => popR st1 (fun a st2 => ((kd κ a).1 = 6 ∨ (kd κ a).1 = 7) ∧ 0 ≤ j ∧ j < (kd κ a).2 ∧ P a j.toNat ≠ 0 ∧ K (pc + 1) ls (pR (P a j.toNat) :: st2) κ P M))
  | .iastore => len = 1 ∧ popI st (fun x st0 => popI st0 (fun j st1 => popR st1 (fun a st2 => (kd κ a).1 = 1 ∧ 0 ≤ j ∧ j < (kd κ a).2 ∧ K (pc + 1) ls st2 κ P (uM M a j.toNat x))))
  | .bastore => len = 1 ∧ popI st (fun x st0 => popI st0 (fun j st1 => popR st1 (fun a st2 => (((kd κ a).1 = 2 ∧ (x = 0 ∨ x = 1)) ∨ ((kd κ a).1 = 3 ∧ (-128 ≤ x ∧ x < 128))) ∧ 0 ≤ j ∧ j < (kd κ a).2 ∧ K (pc + 1) ls st2 κ P (uM M a j.toNat x))))
  | .castore => len = 1 ∧ popI st (fun x st0 => popI st0 (fun j st1 => popR st1 (fun a st2 => (kd κ a).1 = 4 ∧ (0 ≤ x ∧ x < 65536) ∧ 0 ≤ j ∧ j < (kd κ a).2 ∧ K (pc + 1) ls st2 κ P (uM M a j.toNat x))))
  | .lastore => len = 1 ∧ popL st (fun x st0 => popI st0 (fun j st1 => popR st1 (fun a st2 => (kd κ a).1 = 5 ∧ 0 ≤ j ∧ j < (kd κ a).2 ∧ K (pc + 1) ls st2 κ P (uM M a j.toNat x))))
  | .aastore => len = 1 ∧ popR st (fun x st0 => popI st0 (fun j st1 => popR st1 (fun a st2 => (((kd κ a).1 = 6 ∧ kd κ x = (0, 7)) ∨ ((kd κ a).1 = 7 ∧ kd κ x = (0, 5))) ∧ 0 ≤ j ∧ j < (kd κ a).2 ∧ K (pc + 1) ls st2 κ (uP P a j.toNat x) M)))
  | .newarray ty => len = 2 ∧ popI st (fun n st1 => (atc ty ≤ 5 ∧ 0 ≤ n ∧ n ≤ 100000) ∧ 1 ≤ κ.1.1 ∧ n.toNat ≤ κ.1.2 ∧ K (pc + 2) ls (pR κ.2.length :: st1) (newK κ (atc ty, n.toNat) n.toNat) (zP P κ.2.length) (zM M κ.2.length))
  | .anewarray i => len = 3 ∧ popI st (fun n st1 => ∃ t, ((NT (mow m) i = some 7 ∧ t = 6) ∨ (NT (mow m) i = some 5 ∧ t = 7)) ∧ (0 ≤ n ∧ n ≤ 100000) ∧ 1 ≤ κ.1.1 ∧ n.toNat ≤ κ.1.2 ∧ K (pc + 3) ls (pR κ.2.length :: st1) (newK κ (t, n.toNat) n.toNat) (zP P κ.2.length) (zM M κ.2.length))
  | .new i => len = 3 ∧ ((mow m = 10 ∧ i = 157 ∧ X κ P M) ∨ ∃ ci, NT (mow m) i = some ci ∧ 1 ≤ κ.1.1 ∧ nfl ci ≤ κ.1.2 ∧ K (pc + 3) ls (pR κ.2.length :: st) (newK κ (0, ci) (nfl ci)) (zP P κ.2.length) (zM M κ.2.length))
  | .invokevirtual i => len = 3 ∧ ∃ c y, CTb (mow m) i = some (c, y) ∧ c < 2 ∧ kInv E c y st κ P M (fun st' κ' P' M' => K (pc + 3) ls st' κ' P' M')
  | .invokestatic i => len = 3 ∧ ∃ c y, CTb (mow m) i = some (c, y) ∧ (c = 2 ∨ c = 3 ∨ 7 ≤ c) ∧ kInv E c y st κ P M (fun st' κ' P' M' => K (pc + 3) ls st' κ' P' M')
  | .invokespecial i => len = 3 ∧ ∃ c y, CTb (mow m) i = some (c, y) ∧ (c = 4 ∨ c = 5 ∨ c = 6) ∧ kInv E c y st κ P M (fun st' κ' P' M' => K (pc + 3) ls st' κ' P' M')
  | .ireturn => len = 1 ∧ popI st (fun x st1 => st1 = [] ∧ ((rty m = some .int) ∨ (rty m = some .boolean ∧ (x = 0 ∨ x = 1))) ∧ Q (some (pI x)) κ P M)
  | .lreturn => len = 1 ∧ popL st (fun x st1 => st1 = [] ∧ rty m = some .long ∧ Q (some (pL x)) κ P M)
  | .areturn => len = 1 ∧ popR st (fun x st1 => st1 = [] ∧ rty m = some (.object "BuriedWithIt$Path") ∧ Q (some (pR x)) κ P M)
  | .return_ => len = 1 ∧ st = [] ∧ rty m = none ∧ Q none κ P M
  | _ => False
def stepAt (E : CR) (m : Nat) (Q : QT) (X : XT) (pc : Nat) (ls : PL) (st : List PV) (κ : KK) (P : PM) (M : MM) (K : KT) : Prop := ∃ i len, decode (cod m) pc = .ok (i, len) ∧ stepP E m Q X i len pc ls st κ P M K
def wpB (E : CR) (m : Nat) (Q : QT) (X : XT) : KT := fun pc ls st κ P M => ∀ C : KT, (∀ pc ls st κ P M, stepAt E m Q X pc ls st κ P M C → C pc ls st κ P M) → C pc ls st κ P M
def Ev : Nat → CR
  | 0 => fun _ _ _ _ _ _ _ _ _ => False
  | d + 1 => fun y as κ P M r κ' P' M' => (ent as).length ≤ mxl y ∧ wpB (Ev d) y (fun r1 κ1 P1 M1 => r1 = r ∧ κ1 = κ' ∧ P1 = P' ∧ M1 = M') (fun _ _ _ => False) 0 (entL y as) [] κ P M
-- monotone
theorem popI_mono {st : List PV} {K K' : Int → List PV → Prop} (hK : ∀ x s, K x s → K' x s) (h : popI st K) : popI st K' := by
  obtain ⟨x, s, e, h⟩ := h; exact ⟨x, s, e, hK x s h⟩
theorem popL_mono {st : List PV} {K K' : Int → List PV → Prop} (hK : ∀ x s, K x s → K' x s) (h : popL st K) : popL st K' := by
  obtain ⟨x, s, e, h⟩ := h; exact ⟨x, s, e, hK x s h⟩
theorem popR_mono {st : List PV} {K K' : Nat → List PV → Prop} (hK : ∀ x s, K x s → K' x s) (h : popR st K) : popR st K' := by
  obtain ⟨x, s, e, h⟩ := h; exact ⟨x, s, e, hK x s h⟩
theorem popV_mono {st : List PV} {K K' : PV → List PV → Prop} (hK : ∀ x s, K x s → K' x s) (h : popV st K) : popV st K' := by
  obtain ⟨x, s, e, h⟩ := h; exact ⟨x, s, e, hK x s h⟩
theorem popA_mono : ∀ (n : Nat) (acc st : List PV) {K K' : List PV → List PV → Prop} (_ : ∀ x s, K x s → K' x s) (_ : popA n acc st K), popA n acc st K'
  | 0, _, _, _, _, hK, h => hK _ _ h
  | _ + 1, _, [], _, _, _, h => h
  | n + 1, acc, v :: st, _, _, hK, h => popA_mono n (v :: acc) st hK h
theorem getI_mono {ls : PL} {i : Nat} {K K' : Int → Prop} (hK : ∀ x, K x → K' x) (h : getI ls i K) : getI ls i K' := by
  obtain ⟨x, e, h⟩ := h; exact ⟨x, e, hK x h⟩
theorem getL_mono {ls : PL} {i : Nat} {K K' : Int → Prop} (hK : ∀ x, K x → K' x) (h : getL ls i K) : getL ls i K' := by
  obtain ⟨x, e, h⟩ := h; exact ⟨x, e, hK x h⟩
theorem getR_mono {ls : PL} {i : Nat} {K K' : Nat → Prop} (hK : ∀ x, K x → K' x) (h : getR ls i K) : getR ls i K' := by
  obtain ⟨x, e, h⟩ := h; exact ⟨x, e, hK x h⟩
theorem br_mono {c : Prop} {pc : Nat} {off : Int} {K K' : Nat → Prop} (hK : ∀ x, K x → K' x) (h : br c pc off K) : br c pc off K' := ⟨h.1, fun q => hK _ (h.2.1 q), fun q => hK _ (h.2.2 q)⟩
theorem putV_mono {M : MM} {P : PM} {o k t : Nat} {v : PV} {K K' : PM → MM → Prop} (hK : ∀ p q, K p q → K' p q) (h : putV M P o k t v K) : putV M P o k t v K' := by
  rcases v with x | x | x
  · exact ⟨h.1, hK _ _ h.2⟩
  · exact ⟨h.1, hK _ _ h.2⟩
  · exact ⟨h.1, h.2.1, hK _ _ h.2.2⟩
theorem kCall_mono {E E' : CR} {y : Nat} {as st : List PV} {κ : KK} {P : PM} {M : MM} {K K' : List PV → KK → PM → MM → Prop} (hE : ∀ y as κ P M r κ' P' M', E y as κ P M r κ' P' M' → E' y as κ P M r κ' P' M') (hK : ∀ a b c d, K a b c d → K' a b c d) (h : kCall E y as st κ P M K) : kCall E' y as st κ P M K' := by
  obtain ⟨h0, b, r, κ', P', M', hb, h1, h2⟩ := h
  exact ⟨h0, b, r, κ', P', M', hb, hE _ _ _ _ _ _ _ _ _ h1, hK _ _ _ _ h2⟩
theorem kInv_mono {E E' : CR} {c y : Nat} {st : List PV} {κ : KK} {P : PM} {M : MM} {K K' : List PV → KK → PM → MM → Prop} (hE : ∀ y as κ P M r κ' P' M', E y as κ P M r κ' P' M' → E' y as κ P M r κ' P' M') (hK : ∀ a b c d, K a b c d → K' a b c d) (h : kInv E c y st κ P M K) : kInv E' c y st κ P M K' := by
  unfold kInv at h ⊢
  split at h
  · rename_i h1; rw [if_pos h1]; exact popA_mono _ _ _ (fun as s h => ⟨h.1, kCall_mono hE hK h.2⟩) h
  rename_i h1; rw [if_neg h1]
  split at h
  · rename_i h1; rw [if_pos h1]; exact popA_mono _ _ _ (fun as s h => kCall_mono hE hK h) h
  rename_i h1; rw [if_neg h1]
  split at h
  · rename_i h1; rw [if_pos h1]; exact popA_mono _ _ _ (fun as s h => ⟨h.1, kCall_mono hE hK h.2⟩) h
  rename_i h1; rw [if_neg h1]
  split at h
  · rename_i h1; rw [if_pos h1]; exact popR_mono (fun _ _ h => ⟨h.1, hK _ _ _ _ h.2⟩) h
  rename_i h1; rw [if_neg h1]
  split at h
  · rename_i h1; rw [if_pos h1]; exact popI_mono (fun _ _ h => popI_mono (fun _ _ h => ⟨h.1, hK _ _ _ _ h.2⟩) h) h
  rename_i h1; rw [if_neg h1]
  split at h
  · rename_i h1; rw [if_pos h1]; exact popI_mono (fun _ _ h => popI_mono (fun _ _ h => ⟨h.1, hK _ _ _ _ h.2⟩) h) h
  rename_i h1; rw [if_neg h1]
  split at h
  · rename_i h1; rw [if_pos h1]; exact popI_mono (fun _ _ h => ⟨h.1, hK _ _ _ _ h.2⟩) h
  rename_i h1; rw [if_neg h1]
  split at h
  · rename_i h1; rw [if_pos h1]
    exact popI_mono (fun _ _ h => popI_mono (fun _ _ h => popR_mono (fun _ _ h => popI_mono (fun _ _ h => popR_mono (fun _ _ h => by
      obtain ⟨g0, n0, n1, g1, g2, g3, g4, g5, g6, g7, g8⟩ := h
      exact ⟨g0, n0, n1, g1, g2, g3, g4, g5, g6, g7, hK _ _ _ _ g8⟩) h) h) h) h) h
  · exact h.elim
set_option maxHeartbeats 4000000 in
theorem stepP_mono {E E' : CR} {m : Nat} {Q Q' : QT} {X X' : XT} {i : Instr} {len pc : Nat} {ls : PL} {st : List PV} {κ : KK} {P : PM} {M : MM} {K K' : KT} (hE : ∀ y as κ P M r κ' P' M', E y as κ P M r κ' P' M' → E' y as κ P M r κ' P' M') (hQ : ∀ r κ P M, Q r κ P M → Q' r κ P M) (hX : ∀ κ P M, X κ P M → X' κ P M) (hK : ∀ a b c d e f, K a b c d e f → K' a b c d e f) (h : stepP E m Q X i len pc ls st κ P M K) : stepP E' m Q' X' i len pc ls st κ P M K' := by
  unfold stepP at h ⊢
  split at h
  all_goals first
    | exact h.elim
    | exact ⟨h.1, hK _ _ _ _ _ _ h.2⟩
    | exact ⟨h.1, h.2.1, hK _ _ _ _ _ _ h.2.2⟩
    | exact ⟨h.1, getI_mono (fun _ h => hK _ _ _ _ _ _ h) h.2⟩
    | exact ⟨h.1, getL_mono (fun _ h => hK _ _ _ _ _ _ h) h.2⟩
    | exact ⟨h.1, getR_mono (fun _ h => hK _ _ _ _ _ _ h) h.2⟩
    | exact ⟨h.1, h.2.1, getI_mono (fun _ h => hK _ _ _ _ _ _ h) h.2.2⟩
    | exact ⟨h.1, h.2.1, popI_mono (fun _ _ h => hK _ _ _ _ _ _ h) h.2.2⟩
    | exact ⟨h.1, h.2.1, popL_mono (fun _ _ h => hK _ _ _ _ _ _ h) h.2.2⟩
    | exact ⟨h.1, h.2.1, popR_mono (fun _ _ h => hK _ _ _ _ _ _ h) h.2.2⟩
    | exact ⟨h.1, popI_mono (fun _ _ h => hK _ _ _ _ _ _ h) h.2⟩
    | exact ⟨h.1, popL_mono (fun _ _ h => hK _ _ _ _ _ _ h) h.2⟩
    | exact ⟨h.1, popI_mono (fun _ _ h => popI_mono (fun _ _ h => hK _ _ _ _ _ _ h) h) h.2⟩
    | exact ⟨h.1, popL_mono (fun _ _ h => popL_mono (fun _ _ h => hK _ _ _ _ _ _ h) h) h.2⟩
    | exact ⟨h.1, popI_mono (fun _ _ h => popL_mono (fun _ _ h => hK _ _ _ _ _ _ h) h) h.2⟩
    | exact ⟨h.1, popI_mono (fun _ _ h => popI_mono (fun _ _ h => ⟨h.1, hK _ _ _ _ _ _ h.2⟩) h) h.2⟩
    | exact ⟨h.1, popL_mono (fun _ _ h => popL_mono (fun _ _ h => ⟨h.1, hK _ _ _ _ _ _ h.2⟩) h) h.2⟩
    | exact ⟨h.1, popV_mono (fun _ _ h => ⟨h.1, hK _ _ _ _ _ _ h.2⟩) h.2⟩
    | exact ⟨h.1, popV_mono (fun _ _ h => popV_mono (fun _ _ h => ⟨h.1, h.2.1, hK _ _ _ _ _ _ h.2.2⟩) h) h.2⟩
    | exact ⟨h.1, popV_mono (fun _ _ h => Or.imp (fun h => And.intro h.1 (hK _ _ _ _ _ _ h.2)) (fun h => And.intro h.1 (popV_mono (fun _ _ h => ⟨h.1, hK _ _ _ _ _ _ h.2⟩) h.2)) h) h.2⟩
    | exact ⟨h.1, popI_mono (fun _ _ h => br_mono (fun _ h => hK _ _ _ _ _ _ h) h) h.2⟩
    | exact ⟨h.1, popI_mono (fun _ _ h => popI_mono (fun _ _ h => br_mono (fun _ h => hK _ _ _ _ _ _ h) h) h) h.2⟩
    | exact ⟨h.1, popI_mono (fun _ _ h => ⟨h.1, hK _ _ _ _ _ _ h.2⟩) h.2⟩
    | exact ⟨h.1, popR_mono (fun _ _ h => ⟨h.1, hK _ _ _ _ _ _ h.2⟩) h.2⟩
    | exact ⟨h.1, popI_mono (fun _ _ h => ⟨h.1, h.2.1, hQ _ _ _ _ h.2.2⟩) h.2⟩
    | exact ⟨h.1, popL_mono (fun _ _ h => ⟨h.1, h.2.1, hQ _ _ _ _ h.2.2⟩) h.2⟩
    | exact ⟨h.1, popR_mono (fun _ _ h => ⟨h.1, h.2.1, hQ _ _ _ _ h.2.2⟩) h.2⟩
    | exact ⟨h.1, h.2.1, h.2.2.1, hQ _ _ _ _ h.2.2.2⟩
    | exact ⟨h.1, h.2.1, h.2.2.1, h.2.2.2.1, hK _ _ _ _ _ _ h.2.2.2.2⟩
    | exact ⟨h.1, popI_mono (fun _ _ h => popR_mono (fun _ _ h => ⟨h.1, h.2.1, h.2.2.1, hK _ _ _ _ _ _ h.2.2.2⟩) h) h.2⟩
    | exact ⟨h.1, popI_mono (fun _ _ h => popR_mono (fun _ _ h => ⟨h.1, h.2.1, h.2.2.1, h.2.2.2.1, hK _ _ _ _ _ _ h.2.2.2.2⟩) h) h.2⟩
    | exact ⟨h.1, popI_mono (fun _ _ h => popI_mono (fun _ _ h => popR_mono (fun _ _ h => ⟨h.1, h.2.1, h.2.2.1, hK _ _ _ _ _ _ h.2.2.2⟩) h) h) h.2⟩
    | exact ⟨h.1, popI_mono (fun _ _ h => popI_mono (fun _ _ h => popR_mono (fun _ _ h => ⟨h.1, h.2.1, h.2.2.1, h.2.2.2.1, hK _ _ _ _ _ _ h.2.2.2.2⟩) h) h) h.2⟩
    | exact ⟨h.1, popL_mono (fun _ _ h => popI_mono (fun _ _ h => popR_mono (fun _ _ h => ⟨h.1, h.2.1, h.2.2.1, hK _ _ _ _ _ _ h.2.2.2⟩) h) h) h.2⟩
    | exact ⟨h.1, popR_mono (fun _ _ h => popI_mono (fun _ _ h => popR_mono (fun _ _ h => ⟨h.1, h.2.1, h.2.2.1, hK _ _ _ _ _ _ h.2.2.2⟩) h) h) h.2⟩
    | exact ⟨h.1, popI_mono (fun _ _ h => ⟨h.1, h.2.1, h.2.2.1, hK _ _ _ _ _ _ h.2.2.2⟩) h.2⟩
    | exact ⟨h.1, popI_mono (fun _ _ h => by obtain ⟨t, h⟩ := h; exact ⟨t, h.1, h.2.1, h.2.2.1, h.2.2.2.1, hK _ _ _ _ _ _ h.2.2.2.2⟩) h.2⟩
    | exact ⟨h.1, popR_mono (fun _ _ h => by obtain ⟨a, b, c, h⟩ := h; exact ⟨a, b, c, h.1, h.2.1, h.2.2.1, hK _ _ _ _ _ _ h.2.2.2⟩) h.2⟩
    | exact ⟨h.1, popV_mono (fun _ _ h => popR_mono (fun _ _ h => by obtain ⟨a, b, c, h⟩ := h; exact ⟨a, b, c, h.1, h.2.1, h.2.2.1, putV_mono (fun _ _ h => hK _ _ _ _ _ _ h) h.2.2.2⟩) h) h.2⟩
    | exact ⟨h.1, Or.imp (fun h => And.intro h.1 (And.intro h.2.1 (hX _ _ _ h.2.2))) (fun h => (by obtain ⟨c, h⟩ := h; exact ⟨c, h.1, h.2.1, h.2.2.1, hK _ _ _ _ _ _ h.2.2.2⟩)) h.2⟩
    | exact ⟨h.1, by obtain ⟨c, y, h⟩ := h.2; exact ⟨c, y, h.1, h.2.1, kInv_mono hE (fun _ _ _ _ h => hK _ _ _ _ _ _ h) h.2.2⟩⟩
    | exact ⟨h.1, by obtain ⟨v, h⟩ := h.2; exact ⟨v, h.1, hK _ _ _ _ _ _ h.2⟩⟩
theorem stepAt_mono {E E' : CR} {m : Nat} {Q Q' : QT} {X X' : XT} {pc : Nat} {ls : PL} {st : List PV} {κ : KK} {P : PM} {M : MM} {K K' : KT} (hE : ∀ y as κ P M r κ' P' M', E y as κ P M r κ' P' M' → E' y as κ P M r κ' P' M') (hQ : ∀ r κ P M, Q r κ P M → Q' r κ P M) (hX : ∀ κ P M, X κ P M → X' κ P M) (hK : ∀ a b c d e f, K a b c d e f → K' a b c d e f) (h : stepAt E m Q X pc ls st κ P M K) : stepAt E' m Q' X' pc ls st κ P M K' := by
  obtain ⟨i, len, h1, h2⟩ := h
  exact ⟨i, len, h1, stepP_mono hE hQ hX hK h2⟩
theorem wpB_fold {E : CR} {m : Nat} {Q : QT} {X : XT} {pc : Nat} {ls : PL} {st : List PV} {κ : KK} {P : PM} {M : MM} (h : stepAt E m Q X pc ls st κ P M (wpB E m Q X)) : wpB E m Q X pc ls st κ P M :=
  fun C hC => hC _ _ _ _ _ _ (stepAt_mono (fun _ _ _ _ _ _ _ _ _ h => h) (fun _ _ _ _ h => h) (fun _ _ _ h => h) (fun _ _ _ _ _ _ q => q C hC) h)
theorem wpB_unfold {E : CR} {m : Nat} {Q : QT} {X : XT} {pc : Nat} {ls : PL} {st : List PV} {κ : KK} {P : PM} {M : MM} (h : wpB E m Q X pc ls st κ P M) : stepAt E m Q X pc ls st κ P M (wpB E m Q X) :=
  h (fun pc ls st κ P M => stepAt E m Q X pc ls st κ P M (wpB E m Q X)) (fun _ _ _ _ _ _ q => stepAt_mono (fun _ _ _ _ _ _ _ _ _ h => h) (fun _ _ _ _ h => h) (fun _ _ _ h => h) (fun _ _ _ _ _ _ q => wpB_fold q) q)
theorem wpB_at {E : CR} {m : Nat} {Q : QT} {X : XT} {pc : Nat} {ls : PL} {st : List PV} {κ : KK} {P : PM} {M : MM} {i : Instr} {len : Nat} (hd : decode (cod m) pc = .ok (i, len)) : wpB E m Q X pc ls st κ P M ↔ stepP E m Q X i len pc ls st κ P M (wpB E m Q X) := by
  constructor
  · intro h
    obtain ⟨i', len', h1, h2⟩ := wpB_unfold h
    rw [hd] at h1
    cases h1
    exact h2
  · exact fun h => wpB_fold ⟨i, len, hd, h⟩
theorem wpB_mono {E E' : CR} {m : Nat} {Q Q' : QT} {X X' : XT} {pc : Nat} {ls : PL} {st : List PV} {κ : KK} {P : PM} {M : MM} (hE : ∀ y as κ P M r κ' P' M', E y as κ P M r κ' P' M' → E' y as κ P M r κ' P' M') (hQ : ∀ r κ P M, Q r κ P M → Q' r κ P M) (hX : ∀ κ P M, X κ P M → X' κ P M) (h : wpB E m Q X pc ls st κ P M) : wpB E' m Q' X' pc ls st κ P M :=
  h (wpB E' m Q' X') (fun _ _ _ _ _ _ q => wpB_fold (stepAt_mono hE hQ hX (fun _ _ _ _ _ _ q => q) q))
theorem Ev_succ : ∀ (d : Nat) (y : Nat) (as : List PV) (κ : KK) (P : PM) (M : MM) (r : Option PV) (κ' : KK) (P' : PM) (M' : MM), Ev d y as κ P M r κ' P' M' → Ev (d + 1) y as κ P M r κ' P' M'
  | 0, _, _, _, _, _, _, _, _, _, h => h.elim
  | d + 1, _, _, _, _, _, _, _, _, _, h => ⟨h.1, wpB_mono (Ev_succ d) (fun _ _ _ _ h => h) (fun _ _ _ h => h) h.2⟩
theorem Ev_le {d d' : Nat} (hd : d ≤ d') {y : Nat} {as : List PV} {κ : KK} {P : PM} {M : MM} {r : Option PV} {κ' : KK} {P' : PM} {M' : MM} (h : Ev d y as κ P M r κ' P' M') : Ev d' y as κ P M r κ' P' M' := by
  induction hd with
  | refl => exact h
  | step _ ih => exact Ev_succ _ _ _ _ _ _ _ _ _ _ ih
