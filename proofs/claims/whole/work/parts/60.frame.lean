/-! what a question may change; the row that is told -/
def scr (p : Nat) : Prop := (13 ≤ p ∧ p < 29) ∨ (145 ≤ p ∧ p < 174) ∨ p = 177 ∨ p = 182
def Sq (M' M : MM) : Prop := ∀ p, ¬ scr p → M' p = M p
theorem Sq_r {M : MM} : Sq M M := fun _ _ => rfl
theorem Sq_t {M M' M'' : MM} (h : Sq M' M) (h2 : Sq M'' M') : Sq M'' M := fun p hp => (h2 p hp).trans (h p hp)
theorem Sq_u {M M' : MM} {o k : Nat} {v : Int} (h : Sq M' M) (ho : scr o) : Sq (uM M' o k v) M := fun p hp => by
  have e : p ≠ o := fun e => hp (by rw [e]; exact ho)
  rw [uM_ne e]; exact h p hp
theorem Sq_s {M M' : MM} {S : List Nat} (h : same M' M S) (hS : ∀ p, p ∈ S → scr p) : Sq M' M := fun p hp => h p (fun q => hp (hS p q))
theorem Sq_of {M M' : MM} (h : ∀ p, ¬ scr p → M' p = M p) : Sq M' M := h
def WdC (M : MM) (b : Bool) (r c z n : Nat) (A B : Nat → Int) (V : GV) (u : Int) : Prop := GrC M r c z ∧ SnC M 5 A B z n ∧ SnV A B z n ∧ RuV M (qr b) V ∧ M 1 14 = u ∧ 1 ≤ u ∧ u ≤ 99 ∧ LkV A z
theorem qr_scr {b : Bool} : ¬ scr (qr b) ∧ ¬ scr (qr b + 1) ∧ scr (qr b + 2) := by cases b <;> (unfold scr qr; decide)
theorem WdC_sq {M M' : MM} {b : Bool} {r c z n : Nat} {A B : Nat → Int} {V : GV} {u : Int} (h : WdC M b r c z n A B V u) (hs : Sq M' M) : WdC M' b r c z n A B V u := by
  obtain ⟨h1, h2, h3, h4, h5⟩ := h
  refine ⟨GrC_cg h1 (hs 3 (by unfold scr; omega)) (hs 4 (by unfold scr; omega)), SnC_same h2 (fun p q1 q2 => hs p (by unfold scr; omega)), h3, RuV_same h4 (hs _ qr_scr.1) (hs _ qr_scr.2.1), ?_⟩
  rw [hs 1 (by unfold scr; omega)]; exact h5
def ToC (M : MM) (T : List Int) : Prop := M 172 1 = (T.length : Int) ∧ T.length ≤ 36 ∧ ∀ k, k < T.length → M 173 k = T.getD k 0
def tdM (M : MM) (T : List Int) (x : Int) : MM := uM (uM M 173 T.length x) 172 1 ((T.length + 1 : Nat) : Int)
theorem ToC_b {M : MM} : ToC (uM M 172 1 0) [] := ⟨by simp [uM_at], by decide, fun k hk => absurd hk (Nat.not_lt_zero _)⟩
theorem ToC_a {M : MM} {T : List Int} {x : Int} (h : ToC M T) (hl : T.length < 36) : ToC (tdM M T x) (T ++ [x]) := by
  obtain ⟨h1, h2, h3⟩ := h
  unfold tdM
  refine ⟨by simp [uM_at], by simp; omega, fun k hk => ?_⟩
  have hk' : k < T.length + 1 := by simpa using hk
  rw [uM_ne (by decide), uM_at, if_pos rfl]
  by_cases e : k = T.length
  · subst e; rw [if_pos rfl]; simp
  · rw [if_neg e, h3 k (by omega)]
    simp [List.getElem?_append_left (show k < T.length by omega)]
theorem Sq_td {M M' : MM} {T : List Int} {x : Int} (h : Sq M' M) : Sq (tdM M' T x) M := Sq_u (Sq_u h (by unfold scr; omega)) (by unfold scr; omega)
theorem Sq_b {M M' : MM} {v : Int} (h : Sq M' M) : Sq (uM M' 172 1 v) M := Sq_u h (by unfold scr; omega)
theorem c_add {M : MM} {b : Bool} {T : List Int} {x : Int} (h : ToC M T) (hl : T.length < 36) : Ct 1 71 [pR 172, pL x] LC (PC b) M none (PC b) (tdM M T x) := c_Tadd h.1 hl
theorem ToC_1 {M : MM} {x : Int} : ToC (tdM (uM M 172 1 0) [] x) [x] := ToC_a ToC_b (by decide)
theorem ToC_2 {M : MM} {x y : Int} : ToC (tdM (tdM (uM M 172 1 0) [] x) [x] y) [x, y] := ToC_a ToC_1 (by simp)
theorem c_add0 {M : MM} {b : Bool} {x : Int} : Ct 1 71 [pR 172, pL x] LC (PC b) (uM M 172 1 0) none (PC b) (tdM (uM M 172 1 0) [] x) := c_add ToC_b (by decide)
theorem c_add1 {M : MM} {b : Bool} {x y : Int} : Ct 1 71 [pR 172, pL y] LC (PC b) (tdM (uM M 172 1 0) [] x) none (PC b) (tdM (tdM (uM M 172 1 0) [] x) [x] y) := c_add ToC_1 (by simp)
/-- a question answered: v; o is what is told, if anything -/
def QC (b : Bool) (M : MM) (v : PV) (o : Option (List Int)) : Option PV → PM → MM → Prop := fun x P' M' => P' = PC b ∧ x = some v ∧ Sq M' M ∧ (o = none → M' 172 = M 172 ∧ M' 173 = M 173) ∧ ∀ T, o = some T → ToC M' T
theorem QC_n {b : Bool} {M M' : MM} {v : PV} (hs : Sq M' M) (h1 : M' 172 = M 172) (h2 : M' 173 = M 173) : QC b M v none (some v) (PC b) M' := ⟨rfl, rfl, hs, fun _ => ⟨h1, h2⟩, fun T e => by cases e⟩
theorem QC_s {b : Bool} {M M' : MM} {v : PV} {T : List Int} (hs : Sq M' M) (h : ToC M' T) : QC b M v (some T) (some v) (PC b) M' := ⟨rfl, rfl, hs, fun e => (by cases e), fun T' e => by cases e; exact h⟩
-- the reference
def SQl : List Nat := [9, 10, 12, 13, 14, 15, 20, 25, 31, 32, 39]
def TQl : List Nat := [5, 6, 9, 10, 11, 12, 14, 15, 16, 17, 18, 20]
def WdR (M : MM) (ru r c z n : Nat) (A B : Nat → Int) (V : GV) (u : Int) : Prop := EnR M ru r c n z B V ∧ ArR M 2 A ∧ SnV A B z n ∧ M 1 4 = u ∧ 1 ≤ u ∧ u ≤ 99 ∧ LkV A z
theorem WdR_fr {M M' : MM} {ru r c z n : Nat} {A B : Nat → Int} {V : GV} {u : Int} (h : WdR M ru r c z n A B V u) (hf : Fr SQl TQl M M') : WdR M' ru r c z n A B V u := by
  obtain ⟨h1, h2, h3, h4, h5⟩ := h
  have hru := EnR_ru h1
  exact ⟨EnR_fr h1 hf (by decide) ⟨by decide, by simp [TQl]; omega⟩, ArR_fr h2 hf (by decide) (by decide), h3, by rw [hf.1 4 (by decide)]; exact h4, h5⟩
def ToR (M : MM) (T : List Int) : Prop := M 1 9 = (T.length : Int) ∧ T.length ≤ 36 ∧ ∀ k, k < T.length → M 5 k = T.getD k 0
def tdR (M : MM) (T : List Int) (x : Int) : MM := uM (uM M 5 T.length x) 1 9 ((T.length + 1 : Nat) : Int)
theorem ToR_b {M : MM} : ToR (uM M 1 9 0) [] := ⟨by simp [uM_at], by decide, fun k hk => absurd hk (Nat.not_lt_zero _)⟩
theorem ToR_a {M : MM} {T : List Int} {x : Int} (h : ToR M T) (hl : T.length < 36) : ToR (tdR M T x) (T ++ [x]) := by
  obtain ⟨h1, h2, h3⟩ := h
  unfold tdR
  refine ⟨by simp [uM_at], by simp; omega, fun k hk => ?_⟩
  have hk' : k < T.length + 1 := by simpa using hk
  rw [uM_ne (by decide), uM_at, if_pos rfl]
  by_cases e : k = T.length
  · subst e; rw [if_pos rfl]; simp
  · rw [if_neg e, h3 k (by omega)]
    simp [List.getElem?_append_left (show k < T.length by omega)]
theorem Fr_td {M M' : MM} {T : List Int} {x : Int} (h : Fr SQl TQl M M') : Fr SQl TQl M (tdR M' T x) := Fr_1 (Fr_o h (by decide) (by decide)) (by decide)
theorem r_add {M : MM} {rd ru : Nat} {T : List Int} {x : Int} (h : ToR M T) : Ct 1 206 [pR 1, pL x] LR (PR rd ru) M none (PR rd ru) (tdR M T x) := r_tell h.1 (by have := h.2.1; omega)
theorem ToR_1 {M : MM} {x : Int} : ToR (tdR (uM M 1 9 0) [] x) [x] := ToR_a ToR_b (by decide)
theorem ToR_2 {M : MM} {x y : Int} : ToR (tdR (tdR (uM M 1 9 0) [] x) [x] y) [x, y] := ToR_a ToR_1 (by simp)
theorem r_add0 {M : MM} {rd ru : Nat} {x : Int} : Ct 1 206 [pR 1, pL x] LR (PR rd ru) (uM M 1 9 0) none (PR rd ru) (tdR (uM M 1 9 0) [] x) := r_add ToR_b
theorem r_add1 {M : MM} {rd ru : Nat} {x y : Int} : Ct 1 206 [pR 1, pL y] LR (PR rd ru) (tdR (uM M 1 9 0) [] x) none (PR rd ru) (tdR (tdR (uM M 1 9 0) [] x) [x] y) := r_add ToR_1
theorem tdR_10 {M : MM} {T : List Int} {x : Int} : tdR M T x 1 10 = M 1 10 := by unfold tdR; simp [uM_at]
theorem Fr_9 {M M' : MM} {v : Int} (h : Fr SQl TQl M M') : Fr SQl TQl M (uM M' 1 9 v) := Fr_1 h (by decide)
theorem u9_10 {M : MM} {v : Int} : uM M 1 9 v 1 10 = M 1 10 := by simp [uM_at]
def QRt (ru : Nat) (M : MM) (v : PV) (o : Option (List Int)) (th : Int) : Option PV → PM → MM → Prop := fun x P' M' => (∃ rd', P' = PR rd' ru) ∧ x = some v ∧ Fr SQl TQl M M' ∧ M' 1 10 = th ∧ (o = none → M' 1 9 = M 1 9 ∧ M' 5 = M 5) ∧ ∀ T, o = some T → ToR M' T
theorem QR_n {ru rd : Nat} {M M' : MM} {v : PV} {th : Int} (hs : Fr SQl TQl M M') (h0 : M' 1 10 = th) (h1 : M' 1 9 = M 1 9) (h2 : M' 5 = M 5) : QRt ru M v none th (some v) (PR rd ru) M' := ⟨⟨rd, rfl⟩, rfl, hs, h0, fun _ => ⟨h1, h2⟩, fun T e => by cases e⟩
theorem QR_s {ru rd : Nat} {M M' : MM} {v : PV} {T : List Int} {th : Int} (hs : Fr SQl TQl M M') (h0 : M' 1 10 = th) (h : ToR M' T) : QRt ru M v (some T) th (some v) (PR rd ru) M' := ⟨⟨rd, rfl⟩, rfl, hs, h0, fun e => (by cases e), fun T' e => by cases e; exact h⟩
theorem Fr_p {M M' : MM} (h : Fr SPl TPl M M') : Fr SQl TQl M M' := Fr_mono h (by simp [SPl, SQl]) (by simp [TPl, TQl])
theorem Fr_p9 {M M' : MM} (h : Fr SPl TPl M M') : M' 1 9 = M 1 9 ∧ M' 5 = M 5 ∧ M' 1 10 = M 1 10 := ⟨h.1 9 (by decide), h.2 5 (by decide) (by decide), h.1 10 (by decide)⟩
/-- the start of every question of the reference -/
theorem WdR_0 {M : MM} {ru r c z n : Nat} {A B : Nat → Int} {V : GV} {u : Int} (h : WdR M ru r c z n A B V u) : WdR (uM M 1 10 0) ru r c z n A B V u ∧ Fr SQl TQl M (uM M 1 10 0) ∧ uM M 1 10 0 1 10 = 0 ∧ uM M 1 10 0 1 9 = M 1 9 ∧ uM M 1 10 0 5 = M 5 :=
  have hf : Fr SQl TQl M (uM M 1 10 0) := Fr_1 Fr_refl (by decide)
  ⟨WdR_fr h hf, hf, by simp [uM_at], by simp [uM_at], uM_ne (by decide)⟩
