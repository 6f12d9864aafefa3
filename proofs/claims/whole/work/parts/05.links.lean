def fLk (e : Nat × Nat × Nat × Nat × Nat) : Cond := if e.2.2.2.2 = 0 then .fieldLink (ownN e.1) e.2.1 (crow e.2.2.1).1 (frow e.2.2.1 e.2.2.2.1).1 (frow e.2.2.1 e.2.2.2.1).2.1 else .fieldLinkNest (ownN e.1) e.2.1 (crow e.2.2.1).1 (frow e.2.2.1 e.2.2.2.1).1 (frow e.2.2.1 e.2.2.2.1).2.1 "BuriedWithIt"
def chkF (q : (Nat × Nat × Nat × Nat × Nat) × Nat) : Bool := decide (q.1.2.2.1 < 12) && decide (q.1.2.2.2.1 < nfl q.1.2.2.1) && decide (lw_tbl[q.2]? = some (fLk q.1))
set_option maxRecDepth 100000 in
theorem fchk : (ftab.zip fplc).all chkF = true ∧ ftab.length = fplc.length := by decide +kernel
def kLk (e : Nat × Nat × Nat × Nat) : Cond :=
  if e.2.2.1 < 6 then (if e.2.2.1 % 2 = 0 then .methodLink (ownN e.1) e.2.1 (mN e.2.2.2) else .methodLinkNest (ownN e.1) e.2.1 (mN e.2.2.2) "BuriedWithIt")
  else if e.2.2.1 = 6 then .methodLink (ownN e.1) e.2.1 objectInit else if e.2.2.1 = 7 then .methodLink (ownN e.1) e.2.1 Lib.Math.max.name else if e.2.2.1 = 8 then .methodLink (ownN e.1) e.2.1 Lib.Math.min.name else if e.2.2.1 = 9 then .methodLink (ownN e.1) e.2.1 Lib.Math.abs.name else .methodLink (ownN e.1) e.2.1 arraycopyName
def chkK (q : (Nat × Nat × Nat × Nat) × Nat) : Bool := decide (q.1.2.2.2 < 271) && decide (q.1.2.2.1 ≤ 10) && decide (lw_tbl[q.2]? = some (kLk q.1)) && (if q.1.2.2.1 < 2 then decide ((mpl q.1.2.2.2).2.1 = 0 ∧ (mN q.1.2.2.2).name ≠ "<init>" ∧ mow q.1.2.2.2 < 12) else if q.1.2.2.1 < 4 then decide ((mpl q.1.2.2.2).2.1 = 1) else if q.1.2.2.1 < 6 then decide ((mpl q.1.2.2.2).2.1 = 0 ∧ (mN q.1.2.2.2).name = "<init>" ∧ rty q.1.2.2.2 = none) else true)
set_option maxRecDepth 100000 in
theorem kchk : (ktab.zip kplc).all chkK = true ∧ ktab.length = kplc.length := by decide +kernel
def chkI (q : (Nat × Nat × Int) × Nat) : Bool := decide (-2147483648 ≤ q.1.2.2 ∧ q.1.2.2 < 2147483648) && decide (lw_tbl[q.2]? = some (.constant (ownN q.1.1) q.1.2.1 (Int32.ofInt q.1.2.2)))
set_option maxRecDepth 100000 in
theorem ichk : (itab.zip iplc).all chkI = true ∧ itab.length = iplc.length := by decide +kernel
def chkJ (q : (Nat × Nat × Int) × Nat) : Bool := decide (-9223372036854775808 ≤ q.1.2.2 ∧ q.1.2.2 < 9223372036854775808) && decide (lw_tbl[q.2]? = some (.constantLong (ownN q.1.1) q.1.2.1 (Int64.ofInt q.1.2.2)))
set_option maxRecDepth 100000 in
theorem jchk : (jtab.zip jplc).all chkJ = true ∧ jtab.length = jplc.length := by decide +kernel
def chkN (q : (Nat × Nat × Nat) × Nat) : Bool := decide (q.1.2.2 < 12) && decide (lw_tbl[q.2]? = some (.classLink (ownN q.1.1) q.1.2.1 (crow q.1.2.2).1))
set_option maxRecDepth 100000 in
theorem nchk : (ntab.zip nplc).all chkN = true ∧ ntab.length = nplc.length := by decide +kernel
def fty (ci k : Nat) : FieldType := (parseFieldDescriptor (frow ci k).2.1).getD .int
def isRty : FieldType → Bool
  | .object _ => true
  | .array _ => true
  | _ => false
def chkC (ci : Nat) : Bool :=
  let q := cplc.getD ci (0, 0, [])
  decide (lw_tbl[q.1]? = some (.instantiable (crow ci).1 (nfl ci))) && decide (lw_tbl[q.2.1]? = some (.initialized (crow ci).1)) &&
  (List.range (nfl ci)).all (fun k => decide (lw_tbl[q.2.2.getD k 0]? = some (u_lay (crow ci).1 (cT ci) k)) && goodWord (u_lay (crow ci).1 (cT ci) k) && decide (parseFieldDescriptor (frow ci k).2.1 = some (fty ci k)) &&
    (if ftc ci k = 1 then decide (fty ci k = .int) else if ftc ci k = 2 then decide (fty ci k = .boolean) else if ftc ci k = 5 then decide (fty ci k = .long) else decide (ftc ci k = 8) && isRty (fty ci k)) &&
    (List.range (nfl ci)).all (fun k2 => decide (k = k2) || decide ((frow ci k).1 ≠ (frow ci k2).1)))
set_option maxRecDepth 100000 in
theorem cchk : (List.range 12).all chkC = true := by decide +kernel
def oneW (i : Nat) (w : Cond) : Bool := decide (lw_tbl[i]? = some w) && goodWord w
